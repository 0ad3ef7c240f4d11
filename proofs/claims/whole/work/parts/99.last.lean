/-! ===== doubles: what bits() does with them ===== -/
theorem two_f : (4611686018427387904 : UInt64) = fpu false 1024 0 := by decide
theorem one_f : FP.dconst1 = fpu false 1023 0 := by decide
theorem quo_f {f : FP.Core.Fmt} {s t : Bool} {c d : Nat} {q r : Int} (h : ¬ d = 0) : FP.Core.quotient f (.fin s c q) (.fin t d r) = FP.Core.roundRatio f (s != t) c d (q - r) := by
  show (if d = 0 then (if c = 0 then FP.Core.Datum.nan else FP.Core.Datum.inf (s != t)) else FP.Core.roundRatio f (s != t) c d (q - r)) = _
  exact if_neg h
theorem half_n {s : Bool} {E t : Nat} (h1 : 2 ≤ E) (h2 : E ≤ 1100) (ht : t < 4503599627370496) : FP.ddiv (fpu s E t) 4611686018427387904 = fpu s (E - 1) t := by
  rw [two_f]
  show UInt64.ofNat (FP.Core.encode FP.Core.b64 (FP.Core.quotient FP.Core.b64 (FP.Core.decode FP.Core.b64 (fpu s E t).toNat) (FP.Core.decode FP.Core.b64 (fpu false 1024 0).toNat))) = _
  rw [fpu_n (by omega) ht, fpu_n (by decide) (by decide), dec_n (by omega) (by omega) ht, dec_n (by decide) (by decide) (by decide)]
  have hq : FP.Core.quotient FP.Core.b64 (.fin s (4503599627370496 + t) ((E : Int) - 1075)) (.fin false (4503599627370496 + 0) ((1024 : Nat) - 1075 : Int)) = .fin s (4503599627370496 + t) ((E : Int) - 1076) := by
    rw [quo_f (by decide), Nat.add_zero, rr_e1 (by omega) (by omega) (by omega) (by omega), Bool.bne_false]
    congr 1
    omega
  rw [bits_n hq (by omega) (by omega) (by omega), show ((E : Int) - 1076 + 1075).toNat = E - 1 by omega, Nat.add_sub_cancel_left]
theorem dbl_n {s : Bool} {E t : Nat} (h1 : 900 ≤ E) (h2 : E ≤ 1100) (ht : t < 4503599627370496) : FP.dmul (fpu s E t) 4611686018427387904 = fpu s (E + 1) t := by
  rw [two_f]
  show UInt64.ofNat (FP.Core.encode FP.Core.b64 (FP.Core.round FP.Core.b64 (FP.Core.exactProduct (FP.Core.decode FP.Core.b64 (fpu s E t).toNat) (FP.Core.decode FP.Core.b64 (fpu false 1024 0).toNat)))) = _
  rw [fpu_n (by omega) ht, fpu_n (by decide) (by decide), dec_n (by omega) (by omega) ht, dec_n (by decide) (by decide) (by decide)]
  have hq : FP.Core.round FP.Core.b64 (FP.Core.exactProduct (.fin s (4503599627370496 + t) ((E : Int) - 1075)) (.fin false (4503599627370496 + 0) ((1024 : Nat) - 1075 : Int))) = .fin s (4503599627370496 + t) ((E : Int) - 1074) := by
    show FP.Core.roundRatio FP.Core.b64 (s != false) ((4503599627370496 + t) * 4503599627370496) 1 ((E : Int) - 1075 + (((1024 : Nat) : Int) - 1075)) = _
    rw [rr_e2 (by omega) (by omega) (by omega) (by omega), Bool.bne_false]
    congr 1
    omega
  rw [bits_n hq (by omega) (by omega) (by omega), show ((E : Int) - 1074 + 1075).toNat = E + 1 by omega, Nat.add_sub_cancel_left]
theorem one52 : FP.l2d 4503599627370496 = fpu false 1075 0 := by decide +kernel
theorem mul52 {t : Nat} (ht : t < 4503599627370496) : FP.dmul (fpu false 1023 t) (FP.l2d 4503599627370496) = fpu false 1075 t := by
  rw [one52]
  show UInt64.ofNat (FP.Core.encode FP.Core.b64 (FP.Core.round FP.Core.b64 (FP.Core.exactProduct (FP.Core.decode FP.Core.b64 (fpu false 1023 t).toNat) (FP.Core.decode FP.Core.b64 (fpu false 1075 0).toNat)))) = _
  rw [fpu_n (by omega) ht, fpu_n (by decide) (by decide), dec_n (by omega) (by omega) ht, dec_n (by decide) (by decide) (by decide)]
  have hq : FP.Core.round FP.Core.b64 (FP.Core.exactProduct (.fin false (4503599627370496 + t) (((1023 : Nat) : Int) - 1075)) (.fin false (4503599627370496 + 0) ((1075 : Nat) - 1075 : Int))) = .fin false (4503599627370496 + t) 0 := by
    show FP.Core.roundRatio FP.Core.b64 (false != false) ((4503599627370496 + t) * 4503599627370496) 1 (((1023 : Nat) : Int) - 1075 + (((1075 : Nat) : Int) - 1075)) = _
    rw [rr_e2 (by omega) (by omega) (by omega) (by omega)]
    rfl
  rw [bits_n hq (by omega) (by omega) (by omega), show ((0 : Int) + 1075).toNat = 1075 by decide, Nat.add_sub_cancel_left]
theorem d2l_n {t : Nat} (ht : t < 4503599627370496) : FP.d2l (fpu false 1075 t) = lN (4503599627370496 + t) := by
  show FP.Core.toL (FP.Core.decode FP.Core.b64 (fpu false 1075 t).toNat) = _
  rw [fpu_n (by omega) ht, dec_n (by omega) (by omega) ht]
  show Int64.ofInt (max (-2 ^ 63) (min (2 ^ 63 - 1) (((4503599627370496 + t) * 2 ^ 0 / 2 ^ 0 : Nat) : Int))) = _
  rw [Nat.pow_zero, Nat.mul_one, Nat.div_one, show max (-2 ^ 63 : Int) (min (2 ^ 63 - 1) ((4503599627370496 + t : Nat) : Int)) = ((4503599627370496 + t : Nat) : Int) by omega]
  exact Int64.ofInt_eq_ofNat
theorem ord_n {s1 s2 : Bool} {E1 t1 E2 t2 : Nat} (h1 : 1 ≤ E1) (h2 : E1 ≤ 2046) (h3 : t1 < 4503599627370496) (h4 : 1 ≤ E2) (h5 : E2 ≤ 2046) (h6 : t2 < 4503599627370496) : FP.dcmp (fpu s1 E1 t1) (fpu s2 E2 t2) = some (compare (FP.Core.signed s1 ((4503599627370496 + t1) * 2 ^ (E1 - E2))) (FP.Core.signed s2 ((4503599627370496 + t2) * 2 ^ (E2 - E1)))) := by
  show FP.Core.order (FP.Core.decode FP.Core.b64 (fpu s1 E1 t1).toNat) (FP.Core.decode FP.Core.b64 (fpu s2 E2 t2).toNat) = _
  rw [fpu_n (by omega) h3, fpu_n (by omega) h6, dec_n h1 h2 h3, dec_n h4 h5 h6]
  unfold FP.Core.order FP.Core.inUnits
  simp only []
  rw [show ((E1 : Int) - 1075 - min ((E1 : Int) - 1075) ((E2 : Int) - 1075)).toNat = E1 - E2 by omega, show ((E2 : Int) - 1075 - min ((E1 : Int) - 1075) ((E2 : Int) - 1075)).toNat = E2 - E1 by omega]
theorem p2_ge {n : Nat} (h : 1 ≤ n) : 2 ≤ 2 ^ n := by
  have : 2 ^ 1 ≤ 2 ^ n := Nat.pow_le_pow_right (by decide) h
  omega
theorem cmp_lt {E t F : Nat} {op : CmpOp} (h1 : 1 ≤ E) (h2 : E < F) (h3 : F ≤ 2046) (ht : t < 4503599627370496) : Op.cmpValue (FP.dcmp (fpu false E t) (fpu false F 0)) op = -1 := by
  rw [ord_n h1 (by omega) ht (by omega) h3 (by decide), show E - F = 0 by omega]
  have hp := p2_ge (show 1 ≤ F - E by omega)
  have hm := Nat.mul_le_mul_left (4503599627370496 + 0) hp
  have hc : compare (FP.Core.signed false ((4503599627370496 + t) * 2 ^ 0)) (FP.Core.signed false ((4503599627370496 + 0) * 2 ^ (F - E))) = .lt := by
    show compare (((4503599627370496 + t) * 2 ^ 0 : Nat) : Int) (((4503599627370496 + 0) * 2 ^ (F - E) : Nat) : Int) = .lt
    rw [Int.compare_eq_lt]
    rw [Nat.pow_zero, Nat.mul_one]
    omega
  rw [hc]
  rfl
theorem cmp_ge {E t F : Nat} {op : CmpOp} (h1 : 1 ≤ F) (h2 : F ≤ E) (h3 : E ≤ 2046) (ht : t < 4503599627370496) : ¬ Op.cmpValue (FP.dcmp (fpu false E t) (fpu false F 0)) op < 0 := by
  rw [ord_n (by omega) h3 ht h1 (by omega) (by decide), show F - E = 0 by omega]
  have hp : 1 ≤ 2 ^ (E - F) := Nat.one_le_two_pow
  have hm := Nat.mul_le_mul_left (4503599627370496 + t) hp
  have hc : compare (FP.Core.signed false ((4503599627370496 + t) * 2 ^ (E - F))) (FP.Core.signed false ((4503599627370496 + 0) * 2 ^ 0)) ≠ .lt := by
    show compare (((4503599627370496 + t) * 2 ^ (E - F) : Nat) : Int) (((4503599627370496 + 0) * 2 ^ 0 : Nat) : Int) ≠ .lt
    intro q
    rw [Int.compare_eq_lt] at q
    rw [Nat.pow_zero, Nat.mul_one] at q
    omega
  cases hq : compare (FP.Core.signed false ((4503599627370496 + t) * 2 ^ (E - F))) (FP.Core.signed false ((4503599627370496 + 0) * 2 ^ 0)) with
  | lt => exact absurd hq hc
  | eq => show ¬ (0 : Int32) < 0; decide
  | gt => show ¬ (1 : Int32) < 0; decide
theorem cmp_0 {s : Bool} {E t : Nat} {op : CmpOp} (h1 : 1 ≤ E) (h2 : E ≤ 2046) (ht : t < 4503599627370496) : Op.cmpValue (FP.dcmp (fpu s E t) FP.dconst0) op = if s = true then -1 else 1 := by
  have e : FP.dcmp (fpu s E t) FP.dconst0 = some (compare (FP.Core.signed s ((4503599627370496 + t) * 2 ^ (E - 1))) 0) := by
    show FP.Core.order (FP.Core.decode FP.Core.b64 (fpu s E t).toNat) (FP.Core.decode FP.Core.b64 (FP.dconst0).toNat) = _
    rw [fpu_n (by omega) ht, dec_n h1 h2 ht, show FP.Core.decode FP.Core.b64 (FP.dconst0).toNat = .fin false 0 (-1074) by decide +kernel]
    unfold FP.Core.order FP.Core.inUnits
    simp only []
    rw [show ((E : Int) - 1075 - min ((E : Int) - 1075) (-1074)).toNat = E - 1 by omega, Nat.zero_mul]
    rfl
  have hp : 1 ≤ 2 ^ (E - 1) := Nat.one_le_two_pow
  have hm := Nat.mul_le_mul_left (4503599627370496 + t) hp
  rw [e]
  cases s with
  | true =>
    have hc : compare (FP.Core.signed true ((4503599627370496 + t) * 2 ^ (E - 1))) 0 = .lt := by
      show compare (-(((4503599627370496 + t) * 2 ^ (E - 1) : Nat) : Int)) 0 = .lt
      rw [Int.compare_eq_lt]; omega
    rw [hc]; rfl
  | false =>
    have hc : compare (FP.Core.signed false ((4503599627370496 + t) * 2 ^ (E - 1))) 0 = .gt := by
      show compare ((((4503599627370496 + t) * 2 ^ (E - 1) : Nat) : Int)) 0 = .gt
      rw [Int.compare_eq_gt]; omega
    rw [hc]; rfl
theorem cmp_00 {op : CmpOp} : Op.cmpValue (FP.dcmp 0 FP.dconst0) op = 0 := by cases op <;> decide +kernel
theorem cmp_ss {s : Bool} {E t : Nat} {op : CmpOp} (h1 : 1 ≤ E) (h2 : E ≤ 2046) (ht : t < 4503599627370496) : Op.cmpValue (FP.dcmp (fpu s E t) (fpu s E t)) op = 0 := by
  rw [ord_n h1 h2 ht h1 h2 ht]
  have hc : ∀ x : Int, compare x x = .eq := fun x => Int.compare_eq_eq.mpr rfl
  rw [hc]; rfl
theorem fpn_t {E t : Nat} : fpn true E t = 2 ^ 63 + fpn false E t := by
  unfold fpn
  show (1 * 2048 + E) * 4503599627370496 + t = 9223372036854775808 + ((0 * 2048 + E) * 4503599627370496 + t)
  omega
theorem fpn_63 {E t : Nat} (hE : E < 2048) (ht : t < 4503599627370496) : fpn false E t < 2 ^ 63 := by
  unfold fpn
  show (0 * 2048 + E) * 4503599627370496 + t < 9223372036854775808
  omega
theorem xor63 {x : Nat} (h : x < 2 ^ 63) : (2 ^ 63 + x) ^^^ 2 ^ 63 = x := by
  apply Nat.eq_of_testBit_eq
  intro i
  rw [Nat.testBit_xor, Nat.testBit_two_pow]
  by_cases e : 63 = i
  · subst e
    rw [Nat.testBit_two_pow_add_eq, Nat.testBit_lt_two_pow h]; rfl
  · by_cases hi : i < 63
    · rw [Nat.testBit_two_pow_add_gt hi]; simp [e]
    · have h64 : 2 ^ 64 ≤ 2 ^ i := Nat.pow_le_pow_right (by decide) (by omega)
      rw [Nat.testBit_lt_two_pow (show 2 ^ 63 + x < 2 ^ i by omega), Nat.testBit_lt_two_pow (show x < 2 ^ i by omega)]; simp [e]
theorem neg_n {E t : Nat} (hE : E < 2048) (ht : t < 4503599627370496) : FP.dneg (fpu true E t) = fpu false E t := by
  apply UInt64.toNat.inj
  show (fpu true E t ^^^ 0x8000000000000000).toNat = _
  rw [UInt64.toNat_xor, fpu_n hE ht, fpu_n hE ht, fpn_t]
  exact xor63 (fpn_63 hE ht)
theorem nn_n {s : Bool} {E t : Nat} (hE : E ≤ 2046) (ht : t < 4503599627370496) : vf_n64 (fpu s E t) := by
  show fpu s E t &&& 0x7fffffffffffffff ≤ 0x7ff0000000000000
  rw [UInt64.le_iff_toNat_le, UInt64.toNat_and, fpu_n (by omega) ht]
  show fpn s E t &&& (2 ^ 63 - 1) ≤ 9218868437227405312
  rw [Nat.and_two_pow_sub_one_eq_mod]
  have h63 := fpn_63 (show E < 2048 by omega) ht
  have hv : fpn false E t ≤ 9218868437227405312 := by
    unfold fpn
    show (0 * 2048 + E) * 4503599627370496 + t ≤ 9218868437227405312
    omega
  cases s with
  | false => rw [Nat.mod_eq_of_lt h63]; exact hv
  | true => rw [fpn_t, Nat.add_mod_left, Nat.mod_eq_of_lt h63]; exact hv
theorem nn_0 : vf_n64 0 := by unfold vf_n64; decide
/-- the quotient of a weight's numbers -/
def isDb (d : UInt64) : Prop := d = 0 ∨ ∃ s E t, d = fpu s E t ∧ t < 4503599627370496 ∧ 959 ≤ E ∧ E ≤ 1087
theorem isDb_n {d : UInt64} (h : isDb d) : vf_n64 d := by
  rcases h with h | ⟨s, E, t, rfl, h1, h2, h3⟩
  · rw [h]; exact nn_0
  · exact nn_n (by omega) h1
theorem div_0 {E t : Nat} (h1 : 1023 ≤ E) (h2 : E ≤ 1086) (ht : t < 4503599627370496) : FP.ddiv 0 (fpu false E t) = 0 := by
  show UInt64.ofNat (FP.Core.encode FP.Core.b64 (FP.Core.quotient FP.Core.b64 (FP.Core.decode FP.Core.b64 (0 : UInt64).toNat) (FP.Core.decode FP.Core.b64 (fpu false E t).toNat))) = _
  rw [fpu_n (by omega) ht, dec_n (by omega) (by omega) ht, show FP.Core.decode FP.Core.b64 (0 : UInt64).toNat = .fin false 0 (-1074) by decide +kernel]
  show UInt64.ofNat (FP.Core.encode FP.Core.b64 (if 4503599627370496 + t = 0 then _ else _)) = _
  rw [if_neg (by omega)]
  show UInt64.ofNat (FP.Core.encode FP.Core.b64 (FP.Core.roundRatio FP.Core.b64 (false != false) 0 _ _)) = _
  unfold FP.Core.roundRatio
  rw [if_pos rfl]
  decide +kernel
theorem WF_db {w : Fr} (h : WF w) : isDb (FP.ddiv (FP.l2d w.1) (FP.l2d w.2)) := by
  have hv : ¬ w.2 = 0 := fun q => by have := h.2.1; rw [q, i64_0] at this; omega
  have hv2 : w.2 ≠ LEA := h.ne2
  obtain ⟨E2, t2, k1, k2, k3, k4⟩ := l2d_n hv hv2
  rw [decide_eq_false (by have := h.2.1; omega)] at k1
  rw [k1]
  by_cases h0 : w.1 = 0
  · rw [h0, show FP.l2d 0 = 0 by decide +kernel]
    exact Or.inl (div_0 k3 k4 k2)
  · obtain ⟨E1, t1, j1, j2, j3, j4⟩ := l2d_n h0 h.1
    rw [j1]
    obtain ⟨E, t, m1, m2, m3, m4⟩ := ddiv_n (s1 := decide (w.1.toInt < 0)) (s2 := false) j2 j3 j4 k2 k3 k4
    exact Or.inr ⟨_, E, t, m1, m2, m3, m4⟩
