/-! ===== doubles: a number by its sign, its exponent, its tail ===== -/
def fpn (s : Bool) (E t : Nat) : Nat := (s.toNat * 2048 + E) * 4503599627370496 + t
def fpu (s : Bool) (E t : Nat) : UInt64 := .ofNat (fpn s E t)
theorem fpn_lt {s : Bool} {E t : Nat} (hE : E < 2048) (ht : t < 4503599627370496) : fpn s E t < 2 ^ 64 := by
  unfold fpn
  have : s.toNat ≤ 1 := by cases s <;> decide
  have h2 : s.toNat * 2048 + E ≤ 4095 := by omega
  have h3 := Nat.mul_le_mul_right 4503599627370496 h2
  show _ < 18446744073709551616
  omega
theorem fpu_n {s : Bool} {E t : Nat} (hE : E < 2048) (ht : t < 4503599627370496) : (fpu s E t).toNat = fpn s E t := by
  unfold fpu
  rw [UInt64.toNat_ofNat']
  exact Nat.mod_eq_of_lt (fpn_lt hE ht)
theorem b64_t : FP.Core.b64.tails = 4503599627370496 := by decide
theorem b64_e : FP.Core.b64.exps = 2048 := by decide
theorem b64_q : FP.Core.b64.qmin = -1074 := by decide
theorem b64_x : FP.Core.b64.qmax = 971 := by decide
theorem b64_p : (2 : Nat) ^ FP.Core.b64.p = 9007199254740992 := by decide
theorem dec_n {s : Bool} {E t : Nat} (h1 : 1 ≤ E) (h2 : E ≤ 2046) (ht : t < 4503599627370496) : FP.Core.decode FP.Core.b64 (fpn s E t) = .fin s (4503599627370496 + t) ((E : Int) - 1075) := by
  have hs : s.toNat ≤ 1 := by cases s <;> decide
  have hD : fpn s E t / 4503599627370496 = s.toNat * 2048 + E := by unfold fpn; omega
  have hT : FP.Core.fieldT FP.Core.b64 (fpn s E t) = t := by unfold FP.Core.fieldT; rw [b64_t]; unfold fpn; omega
  have hE : FP.Core.fieldE FP.Core.b64 (fpn s E t) = E := by unfold FP.Core.fieldE; rw [b64_t, b64_e, hD]; omega
  have hS : FP.Core.fieldS FP.Core.b64 (fpn s E t) = s := by
    unfold FP.Core.fieldS
    rw [b64_t, b64_e, hD, show (s.toNat * 2048 + E) / 2048 % 2 = s.toNat by omega]
    cases s <;> rfl
  unfold FP.Core.decode
  rw [hE, hT, hS, b64_e, if_neg (by omega), if_neg (by omega), b64_t, b64_q, show (-1074 : Int) + ((E : Int) - 1) = (E : Int) - 1075 by omega]
theorem enc_n {s : Bool} {c : Nat} {q : Int} (h1 : 4503599627370496 ≤ c) (hq : -1074 ≤ q) : FP.Core.encode FP.Core.b64 (.fin s c q) = fpn s (q + 1075).toNat (c - 4503599627370496) := by
  unfold FP.Core.encode
  simp only []
  rw [b64_t, if_neg (by omega), b64_q]
  unfold FP.Core.assemble fpn
  rw [b64_t, b64_e, show (q - -1074).toNat + 1 = (q + 1075).toNat by omega]
theorem lg_52 {c : Nat} (h1 : 4503599627370496 ≤ c) (h2 : c < 9007199254740992) : c.log2 = 52 := (Nat.log2_eq_iff (by omega)).mpr ⟨h1, h2⟩
theorem lead_n {c d : Nat} (h1 : 4503599627370496 ≤ c) (h2 : c < 9007199254740992) (h3 : 4503599627370496 ≤ d) (h4 : d < 9007199254740992) : FP.Core.leading c d = if d ≤ c then 0 else -1 := by
  unfold FP.Core.leading
  rw [lg_52 h1 h2, lg_52 h3 h4]
  simp
theorem nr_b (N D : Nat) : FP.Core.nearest N D = N / D ∨ FP.Core.nearest N D = N / D + 1 := by
  unfold FP.Core.nearest
  split
  · exact Or.inl rfl
  · split
    · exact Or.inr rfl
    · have : N / D % 2 = 0 ∨ N / D % 2 = 1 := by omega
      rcases this with e | e <;> rw [e]
      · exact Or.inl rfl
      · exact Or.inr rfl
theorem nr_e (c : Nat) {D : Nat} (hD : 0 < D) : FP.Core.nearest (c * D) D = c := by
  unfold FP.Core.nearest
  rw [Nat.mul_mod_left, Nat.mul_div_cancel _ hD, if_pos (by omega)]
theorem settle_n {s : Bool} {N D : Nat} {q : Int} (hD : 0 < D) (h1 : 4503599627370496 * D ≤ N) (h2 : N < 9007199254740992 * D) (hq : q + 1 ≤ 971) : ∃ c q', FP.Core.settle FP.Core.b64 s (FP.Core.nearest N D) q = .fin s c q' ∧ 4503599627370496 ≤ c ∧ c < 9007199254740992 ∧ q ≤ q' ∧ q' ≤ q + 1 := by
  have g1 : 4503599627370496 ≤ N / D := (Nat.le_div_iff_mul_le hD).mpr h1
  have g2 : N / D < 9007199254740992 := (Nat.div_lt_iff_lt_mul hD).mpr h2
  have g3 := nr_b N D
  unfold FP.Core.settle FP.Core.bound
  rw [b64_p, b64_x, b64_t]
  by_cases hc : FP.Core.nearest N D < 9007199254740992
  · rw [if_pos hc, if_pos (by omega)]
    exact ⟨_, q, rfl, by omega, hc, by omega, by omega⟩
  · rw [if_neg hc, if_pos (by omega)]
    exact ⟨_, q + 1, rfl, by omega, by omega, by omega, by omega⟩
theorem quan {A B : Nat} {e k : Int} (h : FP.Core.leading A B = k) (h2 : -1074 ≤ k + e - 52) : FP.Core.quantum FP.Core.b64 A B e = k + e - 52 := by
  unfold FP.Core.quantum
  rw [h, b64_q, show ((FP.Core.b64.p : Nat) : Int) - 1 = 52 by decide]
  omega
theorem rr_e1 {s : Bool} {c : Nat} {e : Int} (h1 : 4503599627370496 ≤ c) (h2 : c < 9007199254740992) (g1 : -1022 ≤ e) (g2 : e ≤ 1000) : FP.Core.roundRatio FP.Core.b64 s c 4503599627370496 e = .fin s c (e - 52) := by
  have hl : FP.Core.leading c 4503599627370496 = 0 := by rw [lead_n h1 h2 (by omega) (by omega), if_pos h1]
  have hq := quan (e := e) hl (by omega)
  unfold FP.Core.roundRatio FP.Core.roundAt FP.Core.unitsNum FP.Core.unitsDen
  rw [if_neg (by omega), hq, show (e - (0 + e - 52)).toNat = 52 by omega, show (0 + e - 52 - e).toNat = 0 by omega, Nat.pow_zero, Nat.mul_one, show (2 : Nat) ^ 52 = 4503599627370496 by decide, nr_e c (by decide)]
  unfold FP.Core.settle FP.Core.bound
  rw [b64_p, b64_x, if_pos h2, if_pos (by omega), show (0 : Int) + e - 52 = e - 52 by omega]
theorem rr_e2 {s : Bool} {c : Nat} {e : Int} (h1 : 4503599627370496 ≤ c) (h2 : c < 9007199254740992) (g1 : -1100 ≤ e) (g2 : e ≤ 900) : FP.Core.roundRatio FP.Core.b64 s (c * 4503599627370496) 1 e = .fin s c (e + 52) := by
  have hlg : (c * 4503599627370496).log2 = 104 := (Nat.log2_eq_iff (by omega)).mpr ⟨by omega, by omega⟩
  have hl : FP.Core.leading (c * 4503599627370496) 1 = 104 := by
    unfold FP.Core.leading
    rw [hlg, show Nat.log2 1 = 0 by decide]
    simp only []
    rw [if_pos (by show 1 * 2 ^ 104 ≤ c * 4503599627370496 * 2 ^ 0; omega)]
    rfl
  have hq := quan (e := e) hl (by omega)
  unfold FP.Core.roundRatio FP.Core.roundAt FP.Core.unitsNum FP.Core.unitsDen
  rw [if_neg (by omega), hq, show (e - (104 + e - 52)).toNat = 0 by omega, show (104 + e - 52 - e).toNat = 52 by omega, Nat.pow_zero, Nat.mul_one, Nat.one_mul, show (2 : Nat) ^ 52 = 4503599627370496 by decide, nr_e c (by decide)]
  unfold FP.Core.settle FP.Core.bound
  rw [b64_p, b64_x, if_pos h2, if_pos (by omega), show (104 : Int) + e - 52 = e + 52 by omega]
theorem rr_div {s : Bool} {A B : Nat} {e : Int} (h1 : 4503599627370496 ≤ A) (h2 : A < 9007199254740992) (h3 : 4503599627370496 ≤ B) (h4 : B < 9007199254740992) (g1 : -900 ≤ e) (g2 : e ≤ 900) : ∃ c q, FP.Core.roundRatio FP.Core.b64 s A B e = .fin s c q ∧ 4503599627370496 ≤ c ∧ c < 9007199254740992 ∧ e - 53 ≤ q ∧ q ≤ e - 51 := by
  have hl := lead_n h1 h2 h3 h4
  unfold FP.Core.roundRatio FP.Core.roundAt FP.Core.unitsNum FP.Core.unitsDen
  rw [if_neg (by omega)]
  by_cases hBA : B ≤ A
  · rw [if_pos hBA] at hl
    rw [quan (e := e) hl (by omega), show (e - (0 + e - 52)).toNat = 52 by omega, show (0 + e - 52 - e).toNat = 0 by omega, Nat.pow_zero, Nat.mul_one, show (2 : Nat) ^ 52 = 4503599627370496 by decide]
    obtain ⟨c, q, k1, k2, k3, k4, k5⟩ := settle_n (s := s) (N := A * 4503599627370496) (D := B) (q := 0 + e - 52) (by omega) (by omega) (by omega) (by omega)
    exact ⟨c, q, k1, k2, k3, by omega, by omega⟩
  · rw [if_neg hBA] at hl
    rw [quan (e := e) hl (by omega), show (e - (-1 + e - 52)).toNat = 53 by omega, show (-1 + e - 52 - e).toNat = 0 by omega, Nat.pow_zero, Nat.mul_one, show (2 : Nat) ^ 53 = 9007199254740992 by decide]
    obtain ⟨c, q, k1, k2, k3, k4, k5⟩ := settle_n (s := s) (N := A * 9007199254740992) (D := B) (q := -1 + e - 52) (by omega) (by omega) (by omega) (by omega)
    exact ⟨c, q, k1, k2, k3, by omega, by omega⟩
theorem rr_int {s : Bool} {A : Nat} (h0 : 0 < A) (h1 : A < 2 ^ 63) : ∃ c q, FP.Core.roundRatio FP.Core.b64 s A 1 0 = .fin s c q ∧ 4503599627370496 ≤ c ∧ c < 9007199254740992 ∧ -52 ≤ q ∧ q ≤ 11 := by
  obtain ⟨k, hk⟩ : ∃ k, k = A.log2 := ⟨_, rfl⟩
  have a1 : 2 ^ k ≤ A := by rw [hk]; exact Nat.log2_self_le (by omega)
  have a2 : A < 2 ^ (k + 1) := by rw [hk]; exact Nat.lt_log2_self
  have hk62 : k < 63 := by
    apply Classical.byContradiction
    intro q
    have : 2 ^ 63 ≤ 2 ^ k := Nat.pow_le_pow_right (by decide) (by omega)
    omega
  have hl : FP.Core.leading A 1 = (k : Int) := by
    unfold FP.Core.leading
    rw [← hk, show Nat.log2 1 = 0 by decide]
    simp only []
    rw [show (((k : Int) - ((0 : Nat) : Int))).toNat = k by omega, show (-((k : Int) - ((0 : Nat) : Int))).toNat = 0 by omega, Nat.one_mul, Nat.pow_zero, Nat.mul_one, if_pos a1]
    omega
  unfold FP.Core.roundRatio FP.Core.roundAt FP.Core.unitsNum FP.Core.unitsDen
  rw [if_neg (by omega), quan (e := 0) hl (by omega), Nat.one_mul]
  by_cases h52 : k ≤ 52
  · rw [show (0 - ((k : Int) + 0 - 52)).toNat = 52 - k by omega, show ((k : Int) + 0 - 52 - 0).toNat = 0 by omega, Nat.pow_zero]
    have e1 : 2 ^ k * 2 ^ (52 - k) = 4503599627370496 := by rw [← Nat.pow_add, show k + (52 - k) = 52 by omega]
    have e2 : 2 ^ (k + 1) * 2 ^ (52 - k) = 9007199254740992 := by rw [← Nat.pow_add, show k + 1 + (52 - k) = 53 by omega]
    have b1 := Nat.mul_le_mul_right (2 ^ (52 - k)) a1
    have b2 := Nat.mul_lt_mul_of_pos_right a2 (Nat.two_pow_pos (52 - k))
    obtain ⟨c, q, k1, k2, k3, k4, k5⟩ := settle_n (s := s) (N := A * 2 ^ (52 - k)) (D := 1) (q := (k : Int) + 0 - 52) (by omega) (by omega) (by omega) (by omega)
    exact ⟨c, q, k1, k2, k3, by omega, by omega⟩
  · rw [show (0 - ((k : Int) + 0 - 52)).toNat = 0 by omega, show ((k : Int) + 0 - 52 - 0).toNat = k - 52 by omega, Nat.pow_zero, Nat.mul_one]
    have e1 : 4503599627370496 * 2 ^ (k - 52) = 2 ^ k := by rw [show (4503599627370496 : Nat) = 2 ^ 52 by decide, ← Nat.pow_add, show 52 + (k - 52) = k by omega]
    have e2 : 9007199254740992 * 2 ^ (k - 52) = 2 ^ (k + 1) := by rw [show (9007199254740992 : Nat) = 2 ^ 53 by decide, ← Nat.pow_add, show 53 + (k - 52) = k + 1 by omega]
    obtain ⟨c, q, k1, k2, k3, k4, k5⟩ := settle_n (s := s) (N := A) (D := 2 ^ (k - 52)) (q := (k : Int) + 0 - 52) (Nat.two_pow_pos _) (by omega) (by omega) (by omega)
    exact ⟨c, q, k1, k2, k3, by omega, by omega⟩
/-- what a rounded number is, as bits -/
theorem bits_n {d : FP.Core.Datum} {s : Bool} {c : Nat} {q : Int} (h : d = .fin s c q) (h1 : 4503599627370496 ≤ c) (h2 : c < 9007199254740992) (hq : -1074 ≤ q) : UInt64.ofNat (FP.Core.encode FP.Core.b64 d) = fpu s (q + 1075).toNat (c - 4503599627370496) := by
  rw [h, enc_n h1 hq]; rfl
theorem l2d_n {x : Int64} (h0 : ¬ x = 0) (hL : x ≠ LEA) : ∃ E t, FP.l2d x = fpu (decide (x.toInt < 0)) E t ∧ t < 4503599627370496 ∧ 1023 ≤ E ∧ E ≤ 1086 := by
  have h1 : x.toInt ≠ 0 := fun q => h0 (i64_e0 q)
  have h2 := ne_LEA.mp hL
  have h3 := i64_hi x
  have h4 := i64_lo x
  obtain ⟨c, q, k1, k2, k3, k4, k5⟩ := rr_int (s := decide (x.toInt < 0)) (A := x.toInt.natAbs) (by omega) (by omega)
  refine ⟨(q + 1075).toNat, c - 4503599627370496, ?_, by omega, by omega, by omega⟩
  exact bits_n (d := FP.Core.round FP.Core.b64 (FP.Core.ofInt x.toInt)) k1 k2 k3 (by omega)
theorem ddiv_n {s1 s2 : Bool} {E1 t1 E2 t2 : Nat} (a1 : t1 < 4503599627370496) (b1 : 1023 ≤ E1) (c1 : E1 ≤ 1086) (a2 : t2 < 4503599627370496) (b2 : 1023 ≤ E2) (c2 : E2 ≤ 1086) : ∃ E t, FP.ddiv (fpu s1 E1 t1) (fpu s2 E2 t2) = fpu (s1 != s2) E t ∧ t < 4503599627370496 ∧ 959 ≤ E ∧ E ≤ 1087 := by
  obtain ⟨c, q, k1, k2, k3, k4, k5⟩ := rr_div (s := s1 != s2) (A := 4503599627370496 + t1) (B := 4503599627370496 + t2) (e := ((E1 : Int) - 1075) - ((E2 : Int) - 1075)) (by omega) (by omega) (by omega) (by omega) (by omega) (by omega)
  refine ⟨(q + 1075).toNat, c - 4503599627370496, ?_, by omega, by omega, by omega⟩
  show UInt64.ofNat (FP.Core.encode FP.Core.b64 (FP.Core.quotient FP.Core.b64 (FP.Core.decode FP.Core.b64 (fpu s1 E1 t1).toNat) (FP.Core.decode FP.Core.b64 (fpu s2 E2 t2).toNat))) = _
  rw [fpu_n (by omega) a1, fpu_n (by omega) a2, dec_n (by omega) (by omega) a1, dec_n (by omega) (by omega) a2]
  refine bits_n ?_ k2 k3 (by omega)
  rw [← k1]
  show (if 4503599627370496 + t2 = 0 then _ else _) = _
  rw [if_neg (by omega)]
