/-! ===== longs: what fits, the greatest common divisor, fractions ===== -/
abbrev Fr : Type := Int64 × Int64
abbrev LEA : Int64 := -9223372036854775808
theorem LEA_toInt : (LEA : Int64).toInt = -9223372036854775808 := by decide
abbrev inR (z : Int) : Prop := -9223372036854775808 < z ∧ z < 9223372036854775808
def mulO (a b : Int64) : Option Int64 := if inR (a.toInt * b.toInt) then some (a * b) else none
def addO (a b : Int64) : Option Int64 := if inR (a.toInt + b.toInt) then some (a + b) else none
def subO (a b : Int64) : Option Int64 := if inR (a.toInt - b.toInt) then some (a - b) else none
def addOO : Option Int64 → Option Int64 → Option Int64
  | some a, some b => addO a b
  | _, _ => none
def subOO : Option Int64 → Option Int64 → Option Int64
  | some a, some b => subO a b
  | _, _ => none
def enc (x : Option Int64) : Int64 := x.getD LEA
def decO (x : Int64) : Option Int64 := if x = LEA then none else some x
theorem i64_lo (x : Int64) : -9223372036854775808 ≤ x.toInt := by have := Int64.le_toInt x; simpa using this
theorem i64_hi (x : Int64) : x.toInt < 9223372036854775808 := by have := Int64.toInt_lt x; simpa using this
theorem ne_LEA {x : Int64} : x ≠ LEA ↔ -9223372036854775808 < x.toInt := by
  have h0 := i64_lo x
  constructor
  · intro h
    rcases Int.lt_or_eq_of_le h0 with q | q
    · exact q
    · exact absurd (Int64.toInt_inj.mp (by rw [← q]; exact LEA_toInt.symm)) h
  · intro h q
    rw [q, LEA_toInt] at h
    omega
theorem bm_in {z : Int} (h : inR z) : z.bmod (2 ^ 64) = z := by
  apply Int.bmod_eq_of_le <;> simp <;> omega
theorem mul_in {a b : Int64} (h : inR (a.toInt * b.toInt)) : (a * b).toInt = a.toInt * b.toInt := by rw [Int64.toInt_mul, bm_in h]
theorem add_in {a b : Int64} (h : inR (a.toInt + b.toInt)) : (a + b).toInt = a.toInt + b.toInt := by rw [Int64.toInt_add, bm_in h]
theorem sub_in {a b : Int64} (h : inR (a.toInt - b.toInt)) : (a - b).toInt = a.toInt - b.toInt := by rw [Int64.toInt_sub, bm_in h]
theorem neg_in {a : Int64} (h : a ≠ LEA) : (-a).toInt = -a.toInt := by
  rw [Int64.toInt_neg, bm_in]
  have := ne_LEA.mp h
  have := i64_hi a
  constructor <;> omega
theorem mulO_ne {a b r : Int64} (h : mulO a b = some r) : r ≠ LEA ∧ r.toInt = a.toInt * b.toInt := by
  unfold mulO at h
  split at h
  · next hr =>
    cases h
    rw [ne_LEA, mul_in hr]
    exact ⟨hr.1, rfl⟩
  · cases h
theorem addO_ne {a b r : Int64} (h : addO a b = some r) : r ≠ LEA ∧ r.toInt = a.toInt + b.toInt := by
  unfold addO at h
  split at h
  · next hr =>
    cases h
    rw [ne_LEA, add_in hr]
    exact ⟨hr.1, rfl⟩
  · cases h
theorem subO_ne {a b r : Int64} (h : subO a b = some r) : r ≠ LEA ∧ r.toInt = a.toInt - b.toInt := by
  unfold subO at h
  split at h
  · next hr =>
    cases h
    rw [ne_LEA, sub_in hr]
    exact ⟨hr.1, rfl⟩
  · cases h
theorem dec_mul (a b : Int64) : decO (enc (mulO a b)) = mulO a b := by
  cases h : mulO a b with
  | none => rfl
  | some r => exact if_neg (mulO_ne h).1
theorem dec_addOO (x y : Option Int64) : decO (enc (addOO x y)) = addOO x y := by
  cases x with
  | none => rfl
  | some a => cases y with
    | none => rfl
    | some b => cases h : addOO (some a) (some b) with
      | none => rfl
      | some r => exact if_neg (addO_ne h).1
theorem dec_subOO (x y : Option Int64) : decO (enc (subOO x y)) = subOO x y := by
  cases x with
  | none => rfl
  | some a => cases y with
    | none => rfl
    | some b => cases h : subOO (some a) (some b) with
      | none => rfl
      | some r => exact if_neg (subO_ne h).1
theorem i64_0 : (0 : Int64).toInt = 0 := by decide
theorem ne0_int {x : Int64} (h : ¬ x = 0) : x.toInt ≠ 0 := fun q => h (Int64.toInt_inj.mp (by rw [q]; decide))
/-- the product is checked by a division -/
theorem mul_chk {a b : Int64} (ha : ¬ a = 0) (hd : a * b / a = b) : enc (mulO a b) = a * b := by
  by_cases hz : inR (a.toInt * b.toInt)
  · unfold mulO; rw [if_pos hz]; rfl
  · unfold mulO
    rw [if_neg hz]
    by_cases hm : a * b = LEA
    · exact hm.symm
    · exfalso
      have h1 : (a * b / a).toInt = (a * b).toInt.tdiv a.toInt := Int64.toInt_div_of_ne_left _ _ (fun q => hm (q.trans (by decide)))
      rw [hd] at h1
      have ha0 := ne0_int ha
      have hmod := Int.tmod_add_mul_tdiv (a * b).toInt a.toInt
      rw [← h1] at hmod
      have hb : ((a * b).toInt - a.toInt * b.toInt) % (2 ^ 64) = 0 := by
        rw [Int64.toInt_mul]
        have := Int.bmod_emod (x := a.toInt * b.toInt) (m := 2 ^ 64)
        omega
      have hr : ((a * b).toInt.tmod a.toInt).natAbs < a.toInt.natAbs := by
        rw [Int.natAbs_tmod]
        exact Nat.mod_lt _ (Int.natAbs_pos.mpr ha0)
      have hl := i64_lo a
      have hh := i64_hi a
      have hw := ne_LEA.mp hm
      have hw2 := i64_hi (a * b)
      have hz2 : (a * b).toInt.tmod a.toInt = 0 := by omega
      apply hz
      have : a.toInt * b.toInt = (a * b).toInt := by omega
      rw [this]
      exact ⟨hw, hw2⟩
theorem mul_chk0 {a b : Int64} (ha : a = 0) : enc (mulO a b) = a * b := by
  subst ha
  unfold mulO
  rw [if_pos (by rw [i64_0, Int.zero_mul]; decide)]
  rfl
theorem mul_chkN {a b : Int64} (ha : ¬ a = 0) (hd : ¬ a * b / a = b) : enc (mulO a b) = LEA := by
  unfold mulO
  rw [if_neg]
  · rfl
  · intro hz
    apply hd
    apply Int64.toInt_inj.mp
    have hm : a * b ≠ Int64.minValue := fun q => by
      have h1 := mul_in hz
      rw [q] at h1
      have h2 : (Int64.minValue).toInt = -9223372036854775808 := by decide
      rw [h2] at h1
      omega
    rw [Int64.toInt_div_of_ne_left _ _ hm, mul_in hz, Int.mul_tdiv_cancel_left _ (ne0_int ha)]
theorem xor_lt (x y : Int64) : (x ^^^ y) < 0 ↔ ((x < 0) ↔ ¬ (y < 0)) := by
  have key : ∀ z : Int64, z < 0 ↔ z.toBitVec.msb = true := by
    intro z
    rw [Int64.lt_iff_toInt_lt, i64_0, BitVec.msb_eq_toInt]
    exact decide_eq_true_iff.symm
  rw [key, key, key, Int64.toBitVec_xor, BitVec.msb_xor]
  cases x.toBitVec.msb <;> cases y.toBitVec.msb <;> simp
theorem and_lt (x y : Int64) : (x &&& y) < 0 ↔ (x < 0 ∧ y < 0) := by
  have key : ∀ z : Int64, z < 0 ↔ z.toBitVec.msb = true := by
    intro z
    rw [Int64.lt_iff_toInt_lt, i64_0, BitVec.msb_eq_toInt]
    exact decide_eq_true_iff.symm
  rw [key, key, key, Int64.toBitVec_and, BitVec.msb_and]
  cases x.toBitVec.msb <;> cases y.toBitVec.msb <;> simp
theorem lt0 (x : Int64) : x < 0 ↔ x.toInt < 0 := by rw [Int64.lt_iff_toInt_lt, i64_0]
/-- a sum wraps round -/
theorem add_wr (a b : Int64) : ((a ^^^ (a + b)) &&& (b ^^^ (a + b))) < 0 ↔ ¬ (-9223372036854775808 ≤ a.toInt + b.toInt ∧ a.toInt + b.toInt < 9223372036854775808) := by
  rw [and_lt, xor_lt, xor_lt, lt0, lt0, lt0, Int64.toInt_add]
  have h1 := i64_lo a; have h2 := i64_hi a; have h3 := i64_lo b; have h4 := i64_hi b
  have hb : (a.toInt + b.toInt).bmod (2 ^ 64) = if a.toInt + b.toInt < -9223372036854775808 then a.toInt + b.toInt + 18446744073709551616 else if a.toInt + b.toInt < 9223372036854775808 then a.toInt + b.toInt else a.toInt + b.toInt - 18446744073709551616 := by
    rw [Int.bmod_def]
    split <;> split <;> omega
  rw [hb]
  split <;> (try split) <;> omega
theorem sub_wr (a b : Int64) : ((a ^^^ b) &&& (a ^^^ (a - b))) < 0 ↔ ¬ (-9223372036854775808 ≤ a.toInt - b.toInt ∧ a.toInt - b.toInt < 9223372036854775808) := by
  rw [and_lt, xor_lt, xor_lt, lt0, lt0, lt0, Int64.toInt_sub]
  have h1 := i64_lo a; have h2 := i64_hi a; have h3 := i64_lo b; have h4 := i64_hi b
  have hb : (a.toInt - b.toInt).bmod (2 ^ 64) = if a.toInt - b.toInt < -9223372036854775808 then a.toInt - b.toInt + 18446744073709551616 else if a.toInt - b.toInt < 9223372036854775808 then a.toInt - b.toInt else a.toInt - b.toInt - 18446744073709551616 := by
    rw [Int.bmod_def]
    split <;> split <;> omega
  rw [hb]
  split <;> (try split) <;> omega
theorem plus_bad {a b : Int64} (h : ((a ^^^ (a + b)) &&& (b ^^^ (a + b))) < 0 ∨ a = LEA ∨ b = LEA) : enc (addOO (decO a) (decO b)) = LEA := by
  by_cases ha : a = LEA
  · rw [decO, if_pos ha]; rfl
  by_cases hb : b = LEA
  · rw [decO, if_neg ha, decO, if_pos hb]; rfl
  rw [decO, if_neg ha, decO, if_neg hb, addOO, addO, if_neg]
  · rfl
  · intro hz
    rcases h with h | h | h
    · exact (add_wr a b).mp h ⟨by omega, by omega⟩
    · exact ha h
    · exact hb h
theorem plus_ok {a b : Int64} (h : ¬ ((a ^^^ (a + b)) &&& (b ^^^ (a + b))) < 0) (ha : ¬ a = LEA) (hb : ¬ b = LEA) : enc (addOO (decO a) (decO b)) = a + b := by
  rw [decO, if_neg ha, decO, if_neg hb, addOO, addO]
  split
  · rfl
  · next hz =>
    rw [add_wr, Classical.not_not] at h
    have : a + b = LEA := by
      apply Int64.toInt_inj.mp
      rw [LEA_toInt, Int64.toInt_add, show a.toInt + b.toInt = -9223372036854775808 by omega]
      decide
    rw [this]; rfl
theorem minus_bad {a b : Int64} (h : ((a ^^^ b) &&& (a ^^^ (a - b))) < 0 ∨ a = LEA ∨ b = LEA) : enc (subOO (decO a) (decO b)) = LEA := by
  by_cases ha : a = LEA
  · rw [decO, if_pos ha]; rfl
  by_cases hb : b = LEA
  · rw [decO, if_neg ha, decO, if_pos hb]; rfl
  rw [decO, if_neg ha, decO, if_neg hb, subOO, subO, if_neg]
  · rfl
  · intro hz
    rcases h with h | h | h
    · exact (sub_wr a b).mp h ⟨by omega, by omega⟩
    · exact ha h
    · exact hb h
theorem minus_ok {a b : Int64} (h : ¬ ((a ^^^ b) &&& (a ^^^ (a - b))) < 0) (ha : ¬ a = LEA) (hb : ¬ b = LEA) : enc (subOO (decO a) (decO b)) = a - b := by
  rw [decO, if_neg ha, decO, if_neg hb, subOO, subO]
  split
  · rfl
  · next hz =>
    rw [sub_wr, Classical.not_not] at h
    have : a - b = LEA := by
      apply Int64.toInt_inj.mp
      rw [LEA_toInt, Int64.toInt_sub, show a.toInt - b.toInt = -9223372036854775808 by omega]
      decide
    rw [this]; rfl
/-- sizes -/
def absN (a : Int64) : Nat := a.toInt.natAbs
theorem absN_lt {a : Int64} (h : a ≠ LEA) : absN a < 2 ^ 63 := by
  have := ne_LEA.mp h; have := i64_hi a; unfold absN; omega
theorem abs_neg {a : Int64} (h : a ≠ LEA) (hn : ¬ 0 ≤ a) : -a = lN (absN a) := by
  apply Int64.toInt_inj.mp
  rw [neg_in h, pk_lT (absN_lt h)]
  rw [Int64.le_iff_toInt_le, i64_0] at hn
  unfold absN; omega
theorem abs_pos {a : Int64} (h : a ≠ LEA) (hn : 0 ≤ a) : a = lN (absN a) := by
  apply Int64.toInt_inj.mp
  rw [pk_lT (absN_lt h)]
  rw [Int64.le_iff_toInt_le, i64_0] at hn
  unfold absN; omega
def gcdN (a b : Int64) : Nat := Nat.gcd (absN a) (absN b)
/-- Euclid's steps: what the loop keeps -/
def euI (i x y : Nat) : Prop := x < 2 ^ 63 ∧ y < 2 ^ 63 ∧ (y = 0 ∨ i = 0 ∨ (y ≤ x ∧ x * y * 2 ^ (i - 1) < 2 ^ 126))
theorem euI_0 {x y : Nat} (hx : x < 2 ^ 63) (hy : y < 2 ^ 63) : euI 0 x y := ⟨hx, hy, Or.inr (Or.inl rfl)⟩
theorem euI_s {i x y : Nat} (h : euI i x y) (hy : y ≠ 0) : euI (i + 1) y (x % y) := by
  obtain ⟨h1, h2, h3⟩ := h
  have hm : x % y < y := Nat.mod_lt _ (Nat.pos_of_ne_zero hy)
  refine ⟨h2, Nat.lt_trans hm h2, Or.inr (Or.inr ⟨Nat.le_of_lt hm, ?_⟩)⟩
  rcases h3 with h3 | h3 | ⟨h3, h4⟩
  · exact absurd h3 hy
  · subst h3
    rw [Nat.add_sub_cancel, Nat.pow_zero, Nat.mul_one]
    calc y * (x % y) < 2 ^ 63 * 2 ^ 63 := Nat.mul_lt_mul_of_lt_of_le h2 (Nat.le_of_lt (Nat.lt_trans hm h2)) (by decide)
      _ = 2 ^ 126 := by decide
  · rw [Nat.add_sub_cancel]
    by_cases hi : i = 0
    · subst hi
      rw [Nat.pow_zero, Nat.mul_one]
      calc y * (x % y) < 2 ^ 63 * 2 ^ 63 := Nat.mul_lt_mul_of_lt_of_le h2 (Nat.le_of_lt (Nat.lt_trans hm h2)) (by decide)
        _ = 2 ^ 126 := by decide
    · have e : 2 ^ i = 2 * 2 ^ (i - 1) := by
        rw [← Nat.pow_succ']
        congr 1
        omega
      rw [e]
      have h5 : 2 * (x % y) ≤ x := by
        have h6 := Nat.div_add_mod x y
        have h7 : 1 ≤ x / y := Nat.div_pos h3 (Nat.pos_of_ne_zero hy)
        have h8 : y * 1 ≤ y * (x / y) := Nat.mul_le_mul_left y h7
        omega
      calc y * (x % y) * (2 * 2 ^ (i - 1)) = (y * (2 * (x % y))) * 2 ^ (i - 1) := by
            rw [← Nat.mul_assoc, Nat.mul_comm (y * (x % y)) 2, ← Nat.mul_assoc, Nat.mul_left_comm y 2, Nat.mul_assoc 2]
        _ ≤ (x * y) * 2 ^ (i - 1) := by
            apply Nat.mul_le_mul_right
            rw [Nat.mul_comm x y]
            exact Nat.mul_le_mul_left y h5
        _ < 2 ^ 126 := h4
theorem euI_e {i x y : Nat} (h : euI i x y) (hi : 200 ≤ i) : y = 0 := by
  obtain ⟨h1, h2, h3⟩ := h
  rcases h3 with h3 | h3 | ⟨h3, h4⟩
  · exact h3
  · omega
  · rcases Nat.eq_zero_or_pos y with h5 | h5
    · exact h5
    · exfalso
      have h6 : 1 ≤ x * y := Nat.mul_pos (by omega) h5
      have h7 : 2 ^ 126 ≤ 2 ^ (i - 1) := Nat.pow_le_pow_right (by decide) (by omega)
      have h8 : 1 * 2 ^ (i - 1) ≤ x * y * 2 ^ (i - 1) := Nat.mul_le_mul_right _ h6
      omega
theorem gcd_s {x y g : Nat} (h : Nat.gcd x y = g) : Nat.gcd y (x % y) = g := by
  rw [← h, Nat.gcd_comm x y, Nat.gcd_rec y x, Nat.gcd_comm]
theorem gcdN_lt {a b : Int64} (ha : a ≠ LEA) (hb : b ≠ LEA) : gcdN a b < 2 ^ 63 := by
  unfold gcdN
  by_cases h : absN b = 0
  · rw [h, Nat.gcd_zero_right]; exact absN_lt ha
  · exact Nat.lt_of_le_of_lt (Nat.gcd_le_right _ (Nat.pos_of_ne_zero h)) (absN_lt hb)
/-- a fraction in lowest terms -/
def red (u v : Int64) : Fr := if 0 ≤ v then (u / lN (gcdN u v), v / lN (gcdN u v)) else (u / -lN (gcdN u v), v / -lN (gcdN u v))
def fPut : Option Int64 → Option Int64 → Option Fr
  | some u, some v => if v = 0 then none else some (red u v)
  | _, _ => none
def fMul (x y : Fr) : Option Fr := fPut (mulO x.1 y.1) (mulO x.2 y.2)
def fDiv (x y : Fr) : Option Fr := fPut (mulO x.1 y.2) (mulO x.2 y.1)
def fAdd (x y : Fr) : Option Fr := fPut (addOO (mulO x.1 y.2) (mulO y.1 x.2)) (mulO x.2 y.2)
def fSub (x y : Fr) : Option Fr := fPut (subOO (mulO x.1 y.2) (mulO y.1 x.2)) (mulO x.2 y.2)
def fr (L : LL) (o : Nat) : Fr := (L o 0, L o 1)
def setF (L : LL) (o : Nat) (x : Fr) : LL := up2 (up2 L o 0 x.1) o 1 x.2
theorem fr_setF (L : LL) (o q : Nat) (x : Fr) : fr (setF L o x) q = if q = o then x else fr L q := by
  unfold fr setF
  simp only [up2_at]
  split <;> simp_all
theorem setF_ne {L : LL} {o q : Nat} {x : Fr} (h : q ≠ o) : setF L o x q = L q := by
  unfold setF
  rw [up2_ne _ h, up2_ne _ h]
/-- what a call answers that may be too long: 1 and the fraction put at o; or 0 and nothing changed -/
def Put (I : II) (L : LL) (o : Nat) (x : Option Fr) (r : Int32) (I1 : II) (L1 : LL) : Prop := I = I1 ∧ ((∃ z, x = some z ∧ r = b2i true ∧ setF L o z = L1) ∨ (x = none ∧ r = b2i false ∧ L = L1))
theorem ng0 {x : Int64} (h : ¬ x = 0) : ¬ -x = 0 := fun q => h (by have := congrArg (fun z => -z) q; simpa using this)
theorem lN_0 {y : Nat} (hy : y < 2 ^ 63) (h : lN y = 0) : y = 0 := (pk_lEQ hy (by decide)).mp h
theorem gcd_n0 {u v : Int64} (hu : ¬ u = LEA) (hv : ¬ v = LEA) (h0 : ¬ v = 0) : ¬ lN (gcdN u v) = 0 := by
  intro q
  have h1 := lN_0 (gcdN_lt hu hv) q
  have h2 := (Nat.gcd_eq_zero_iff.mp h1).2
  unfold absN at h2
  have := ne0_int h0
  omega
theorem fPut_1 {u v : Int64} (h : u = LEA) : fPut (decO u) (decO v) = none := by rw [decO, if_pos h]; rfl
theorem fPut_2 {u v : Int64} (h : v = LEA) : fPut (decO u) (decO v) = none := by
  rw [decO, decO, if_pos h]
  split <;> rfl
theorem fPut_3 {u v : Int64} (h : v = 0) : fPut (decO u) (decO v) = none := by
  subst h
  rw [show decO 0 = some 0 from if_neg (by decide)]
  cases decO u with
  | none => rfl
  | some w =>
    show (if (0 : Int64) = 0 then none else some (red w 0)) = none
    exact if_pos rfl
theorem fPut_4 {u v : Int64} (hu : ¬ u = LEA) (hv : ¬ v = LEA) (h : ¬ v = 0) : fPut (decO u) (decO v) = some (red u v) := by
  rw [decO, decO, if_neg hu, if_neg hv]
  exact if_neg h
theorem red_p {u v : Int64} (h : 0 ≤ v) : red u v = (u / lN (gcdN u v), v / lN (gcdN u v)) := if_pos h
theorem red_n {u v : Int64} (h : ¬ 0 ≤ v) : red u v = (u / -lN (gcdN u v), v / -lN (gcdN u v)) := if_neg h
