/-! ===== fractions in lowest terms ===== -/
def WF (x : Fr) : Prop := x.1 ≠ LEA ∧ 0 < x.2.toInt ∧ gcdN x.1 x.2 = 1
theorem WF.ne2 {x : Fr} (h : WF x) : x.2 ≠ LEA := by rw [ne_LEA]; have := h.2.1; omega
theorem WF.n0 {x : Fr} (h : WF x) : ¬ x.2 = 0 := fun q => by have := h.2.1; rw [q, i64_0] at this; omega
theorem WF.pos {x : Fr} (h : WF x) : 0 ≤ x.2 := by rw [Int64.le_iff_toInt_le, i64_0]; have := h.2.1; omega
theorem natAbs_tdiv_dvd {a : Int} {g : Nat} (hg : g ∣ a.natAbs) : (a.tdiv g).natAbs = a.natAbs / g := by rw [Int.natAbs_tdiv]; rfl
theorem lN_I {g : Nat} (h : g < 2 ^ 63) : (lN g).toInt = (g : Int) := pk_lT h
theorem div_g {u : Int64} {g : Nat} (hu : u ≠ LEA) (hg : g < 2 ^ 63) : (u / lN g).toInt = u.toInt.tdiv g := by
  rw [Int64.toInt_div_of_ne_left _ _ (fun q => hu (q.trans (by decide))), lN_I hg]
theorem div_ng {u : Int64} {g : Nat} (hu : u ≠ LEA) (hg : g < 2 ^ 63) : (u / -lN g).toInt = -(u.toInt.tdiv g) := by
  rw [Int64.toInt_div_of_ne_left _ _ (fun q => hu (q.trans (by decide))), neg_in (by rw [ne_LEA, lN_I hg]; omega), lN_I hg, Int.tdiv_neg]
theorem red_WF {u v : Int64} (hu : u ≠ LEA) (hv : v ≠ LEA) (h0 : ¬ v = 0) : WF (red u v) := by
  have hg := gcdN_lt hu hv
  have hg0 : 0 < gcdN u v := Nat.pos_of_ne_zero (fun q => gcd_n0 hu hv h0 (by rw [q]; rfl))
  have d1 : gcdN u v ∣ u.toInt.natAbs := Nat.gcd_dvd_left _ _
  have d2 : gcdN u v ∣ v.toInt.natAbs := Nat.gcd_dvd_right _ _
  have hl := ne_LEA.mp hu
  have hh := i64_hi u
  have hv0 := ne0_int h0
  have e1 : (u.toInt.tdiv (gcdN u v)).natAbs = u.toInt.natAbs / gcdN u v := natAbs_tdiv_dvd d1
  have e2 : (v.toInt.tdiv (gcdN u v)).natAbs = v.toInt.natAbs / gcdN u v := natAbs_tdiv_dvd d2
  have hle : u.toInt.natAbs / gcdN u v ≤ u.toInt.natAbs := Nat.div_le_self _ _
  have hp2 : 0 < v.toInt.natAbs / gcdN u v := Nat.div_pos (Nat.le_of_dvd (by omega) d2) hg0
  have hgc : Nat.gcd (u.toInt.natAbs / gcdN u v) (v.toInt.natAbs / gcdN u v) = 1 := by
    rw [Nat.gcd_div d1 d2]
    exact Nat.div_self hg0
  by_cases hp : 0 ≤ v
  · rw [red_p hp]
    have hvp : 0 ≤ v.toInt := by rw [Int64.le_iff_toInt_le, i64_0] at hp; exact hp
    have ht : 0 ≤ v.toInt.tdiv (gcdN u v) := Int.tdiv_nonneg hvp (by omega)
    refine ⟨?_, ?_, ?_⟩
    · show u / lN (gcdN u v) ≠ LEA
      rw [ne_LEA, div_g hu hg]; omega
    · show 0 < (v / lN (gcdN u v)).toInt
      rw [div_g hv hg]; omega
    · show gcdN (u / lN (gcdN u v)) (v / lN (gcdN u v)) = 1
      rw [gcdN, absN, absN, div_g hu hg, div_g hv hg, e1, e2]
      exact hgc
  · rw [red_n hp]
    have hvp : v.toInt < 0 := by rw [Int64.le_iff_toInt_le, i64_0] at hp; omega
    have ht : v.toInt.tdiv (gcdN u v) ≤ 0 := by
      have := Int.tdiv_nonneg (a := -v.toInt) (b := (gcdN u v : Int)) (by omega) (by omega)
      rw [Int.neg_tdiv] at this
      omega
    refine ⟨?_, ?_, ?_⟩
    · show u / -lN (gcdN u v) ≠ LEA
      rw [ne_LEA, div_ng hu hg]; omega
    · show 0 < (v / -lN (gcdN u v)).toInt
      rw [div_ng hv hg]; omega
    · show gcdN (u / -lN (gcdN u v)) (v / -lN (gcdN u v)) = 1
      rw [gcdN, absN, absN, div_ng hu hg, div_ng hv hg, Int.natAbs_neg, Int.natAbs_neg, e1, e2]
      exact hgc
theorem div_1 (u : Int64) : u / lN 1 = u := by
  apply Int64.toInt_inj.mp
  rw [Int64.toInt_div_of_ne_right _ _ (by decide), lN_I (by decide)]
  simp
theorem red_id {x : Fr} (h : WF x) : red x.1 x.2 = x := by
  rw [red_p h.pos, h.2.2, div_1, div_1]
theorem fPut_WF {a b : Option Int64} {z : Fr} (ha : ∀ u, a = some u → u ≠ LEA) (hb : ∀ u, b = some u → u ≠ LEA) (h : fPut a b = some z) : WF z := by
  cases a with
  | none => cases h
  | some u => cases b with
    | none => cases h
    | some v =>
      by_cases h0 : v = 0
      · rw [fPut, if_pos h0] at h; cases h
      · rw [fPut, if_neg h0] at h
        cases h
        exact red_WF (ha u rfl) (hb v rfl) h0
theorem addOO_ne {x y : Option Int64} : ∀ u, addOO x y = some u → u ≠ LEA := fun u h => by
  cases x with
  | none => cases h
  | some a => cases y with
    | none => cases h
    | some b => exact (addO_ne h).1
theorem subOO_ne {x y : Option Int64} : ∀ u, subOO x y = some u → u ≠ LEA := fun u h => by
  cases x with
  | none => cases h
  | some a => cases y with
    | none => cases h
    | some b => exact (subO_ne h).1
theorem fMul_WF {x y z : Fr} (h : fMul x y = some z) : WF z := fPut_WF (fun _ q => (mulO_ne q).1) (fun _ q => (mulO_ne q).1) h
theorem fDiv_WF {x y z : Fr} (h : fDiv x y = some z) : WF z := fPut_WF (fun _ q => (mulO_ne q).1) (fun _ q => (mulO_ne q).1) h
theorem fAdd_WF {x y z : Fr} (h : fAdd x y = some z) : WF z := fPut_WF addOO_ne (fun _ q => (mulO_ne q).1) h
theorem fSub_WF {x y z : Fr} (h : fSub x y = some z) : WF z := fPut_WF subOO_ne (fun _ q => (mulO_ne q).1) h
theorem WF_00 : WF (0, 1) := ⟨by decide, by decide, by decide⟩
theorem WF_10 : WF (1, 1) := ⟨by decide, by decide, by decide⟩
theorem WF_n1 : WF (-1, 1) := ⟨by decide, by decide, by decide⟩
theorem i64_1 : (1 : Int64).toInt = 1 := by decide
theorem mulO_0 (x : Int64) : mulO 0 x = some 0 := by
  unfold mulO
  rw [if_pos (by rw [i64_0, Int.zero_mul]; decide), Int64.zero_mul]
theorem mulO_0r (x : Int64) : mulO x 0 = some 0 := by
  unfold mulO
  rw [if_pos (by rw [i64_0, Int.mul_zero]; decide), Int64.mul_zero]
theorem mulO_1 {x : Int64} (h : x ≠ LEA) : mulO x 1 = some x := by
  unfold mulO
  rw [if_pos (by rw [i64_1, Int.mul_one]; exact ⟨ne_LEA.mp h, i64_hi x⟩), Int64.mul_one]
theorem mulO_1l {x : Int64} (h : x ≠ LEA) : mulO 1 x = some x := by
  unfold mulO
  rw [if_pos (by rw [i64_1, Int.one_mul]; exact ⟨ne_LEA.mp h, i64_hi x⟩), Int64.one_mul]
theorem red_0 {v : Int64} (h : v ≠ LEA) (h0 : 0 < v.toInt) : red 0 v = (0, 1) := by
  have hw := red_WF (u := 0) (by decide) h (fun q => by rw [q, i64_0] at h0; omega)
  have hp : 0 ≤ v := by rw [Int64.le_iff_toInt_le, i64_0]; omega
  have hg : gcdN 0 v = absN v := by unfold gcdN; rw [show absN 0 = 0 from by decide, Nat.gcd_zero_left]
  rw [red_p hp, hg, ← abs_pos h hp]
  have h1 : (0 : Int64) / v = 0 := by
    apply Int64.toInt_inj.mp
    rw [Int64.toInt_div_of_ne_left _ _ (by decide), i64_0, Int.zero_tdiv]
  have h2 : v / v = 1 := by
    apply Int64.toInt_inj.mp
    rw [Int64.toInt_div_of_ne_left _ _ (fun q => h (q.trans (by decide))), Int.tdiv_self (by omega), i64_1]
  rw [h1, h2]
theorem fPut_of {u v : Int64} (h : ¬ v = 0) : fPut (some u) (some v) = some (red u v) := if_neg h
theorem fMul_0 {y : Fr} (h : WF y) : fMul (0, 1) y = some (0, 1) := by
  unfold fMul
  rw [mulO_0, mulO_1l h.ne2, fPut_of h.n0, red_0 h.ne2 h.2.1]
theorem fAdd_0 {x : Fr} (h : WF x) : fAdd x (0, 1) = some x := by
  unfold fAdd
  rw [mulO_1 h.1, mulO_0, mulO_1 h.ne2]
  have : addOO (some x.1) (some 0) = some x.1 := by
    show addO x.1 0 = some x.1
    unfold addO
    rw [if_pos (by rw [i64_0, Int.add_zero]; exact ⟨ne_LEA.mp h.1, i64_hi _⟩), Int64.add_zero]
  rw [this, fPut_of h.n0, red_id h]
theorem fDiv_1 {x : Fr} (h : WF x) : fDiv x (1, 1) = some x := by
  unfold fDiv
  rw [mulO_1 h.1, mulO_1 h.ne2, fPut_of h.n0, red_id h]
def ngF (x : Fr) : Fr := (-x.1, x.2)
theorem WF.ng {x : Fr} (h : WF x) : WF (ngF x) := by
  have h1 := neg_in h.1
  have h2 := ne_LEA.mp h.1
  have h3 := i64_hi x.1
  refine ⟨?_, h.2.1, ?_⟩
  · show -x.1 ≠ LEA
    rw [ne_LEA, h1]; omega
  · show gcdN (-x.1) x.2 = 1
    rw [gcdN, absN, h1, Int.natAbs_neg]
    exact h.2.2
theorem put_ng {x : Fr} (h : WF x) : fPut (decO (-x.1)) (decO x.2) = some (ngF x) := by
  show fPut (decO (ngF x).1) (decO x.2) = _
  rw [fPut_4 h.ng.1 h.ne2 h.n0]
  exact congrArg some (red_id h.ng)
theorem fSub_0 {x : Fr} (h : WF x) : fSub (0, 1) x = some (ngF x) := by
  unfold fSub
  rw [mulO_0, mulO_1 h.1, mulO_1l h.ne2]
  have : subOO (some 0) (some x.1) = some (-x.1) := by
    show subO 0 x.1 = some (-x.1)
    unfold subO
    have h2 := ne_LEA.mp h.1
    have h3 := i64_hi x.1
    rw [if_pos (by rw [i64_0]; constructor <;> omega), Int64.zero_sub]
  rw [this, fPut_of h.n0]
  exact congrArg some (red_id h.ng)
theorem WF_1 {w : Int64} (h : w ≠ LEA) : WF (w, 1) := ⟨h, (by decide : 0 < (1 : Int64).toInt), by show Nat.gcd (absN w) (absN 1) = 1; rw [show absN 1 = 1 from by decide]; exact Nat.gcd_one_right _⟩
theorem put_1 {w : Int64} (h : w ≠ LEA) : fPut (decO w) (decO 1) = some (w, 1) := by
  rw [fPut_4 h (by decide) (by decide)]
  exact congrArg some (red_id (WF_1 h))
theorem hv_WF (v : Int32) (i j : Nat) : WF (hv v i j) := by
  unfold hv
  apply red_WF (i2l_ne v)
  · split <;> decide
  · split <;> decide
/-! ===== the witness ===== -/
/-- every number of an elimination is in lowest terms, its lines are as told -/
def EW (n : Nat) (E : ES) : Prop := (∀ i j, i ≤ n → j ≤ n → WF (eM E i j)) ∧ ∀ s, s < eS E → eP E s ≤ n ∧ WF (eW E s) ∧ ∀ j, WF (eN E s j) ∧ (eT E s j = true → j ≠ eP E s ∧ j ≤ n) ∧ (eT E s j = false → j = eP E s ∨ eN E s j = (0, 1))
theorem EW_0 {n : Nat} {M : Nat → Nat → Fr} (h : ∀ i j, i ≤ n → j ≤ n → WF (M i j)) : EW n (E0 n M) := ⟨h, fun s hs => absurd hs (Nat.not_lt_zero s)⟩
theorem rwF_WF {n : Nat} {E : ES} {k j : Nat} (h : rwO E k j ≠ none) : WF (rwF E k j) := by
  unfold rwF
  cases hq : rwO E k j with
  | none => exact absurd hq h
  | some z =>
    show WF z
    unfold rwO at hq
    split at hq
    · exact fDiv_WF hq
    · cases hq
      split
      · exact WF_10
      · exact WF_00
theorem nwO_WF {n : Nat} {E : ES} {k i j : Nat} {z : Fr} (h : nwO n E k i j = some z) : WF z := by
  have key : ∀ a b, cpO E k a b = some z → WF z := by
    intro a b hq
    unfold cpO at hq
    cases hm : fMul (eM E a k) (eN E (eS E - 1) b) with
    | none => rw [hm] at hq; cases hq
    | some x => rw [hm] at hq; exact fSub_WF hq
  unfold nwO at h
  split at h
  · exact key _ _ h
  · exact key _ _ h
theorem EW_s {n k : Nat} {E E' : ES} (h : EW n E) (hE : EI n E) (hk : k ≤ n) (h2 : pvO n E k = some E') : EW n E' := by
  unfold pvO at h2
  by_cases hp : rwOk n E k ∧ lsOk n (midE E k) k
  · rw [cif_t hp] at h2
    cases h2
    refine ⟨fun i j hi hj => ?_, fun s hs => ?_⟩
    · show WF (if va_up (eL E) k false i = true ∧ va_up (eL E) k false j = true then (nwO n (midE E k) k i j).getD (0, 1) else eM E i j)
      split
      · next hl =>
        have := hp.2 i j hi hj hl.1 hl.2
        cases hq : nwO n (midE E k) k i j with
        | none => exact absurd hq this
        | some z => exact nwO_WF hq
      · exact h.1 i j hi hj
    · have hs' : s < eS E + 1 := hs
      show va_up (eP E) (eS E) k s ≤ n ∧ WF (va_up (eW E) (eS E) (eM E k k) s) ∧ ∀ j, WF (va_up (eN E) (eS E) (rwF E k) s j) ∧ (va_up (eT E) (eS E) (fun j => eL E j && decide (j ≠ k)) s j = true → j ≠ va_up (eP E) (eS E) k s ∧ j ≤ n) ∧ (va_up (eT E) (eS E) (fun j => eL E j && decide (j ≠ k)) s j = false → j = va_up (eP E) (eS E) k s ∨ va_up (eN E) (eS E) (rwF E k) s j = (0, 1))
      by_cases e : s = eS E
      · subst e
        simp only [va_up_self]
        have hno : ∀ j, ¬ (eL E j = true ∧ j ≠ k) → rwO E k j = some (if j = k then (1, 1) else (0, 1)) := fun j hj => by unfold rwO; rw [if_neg hj]
        refine ⟨hk, h.1 k k hk hk, fun j => ⟨?_, fun hj => ?_, fun hj => ?_⟩⟩
        · by_cases hj : j ≤ n
          · exact rwF_WF (n := n) (hp.1 j hj)
          · exact rwF_WF (n := n) (by rw [hno j (fun q => by rw [hE.1 j (by omega)] at q; cases q.1)]; exact fun q => by cases q)
        · rw [Bool.and_eq_true, decide_eq_true_eq] at hj
          refine ⟨hj.2, ?_⟩
          by_cases hjn : j ≤ n
          · exact hjn
          · rw [hE.1 j (by omega)] at hj; cases hj.1
        · by_cases ejk : j = k
          · exact Or.inl ejk
          · right
            rw [decide_eq_true ejk, Bool.and_true] at hj
            have := hno j (fun q => by rw [hj] at q; cases q.1)
            rw [if_neg ejk] at this
            exact rwF_of this
      · simp only [va_up_ne _ _ e]
        exact h.2 s (by omega)
  · rw [cif_f hp] at h2
    cases h2
theorem elim_EW {n : Nat} : ∀ {f : Nat} {E : ES} {c k : Nat} {jo : Option Nat} {E' : ES}, EW n E → EI n E → elim n f E = (c, k, jo, E') → EW n E' ∧ EI n E' ∧ (c = 0 → k ≤ n ∧ ∀ j, jo = some j → j ≤ n) ∧ c ≤ 2
  | 0, E, c, k, jo, E', h1, h2, h => by
    cases h
    exact ⟨h1, h2, fun q => by omega, by omega⟩
  | f + 1, E, c, k, jo, E', h1, h2, h => by
    cases hf : ffo (isSg (-1) E) n (n + 1) with
    | some k1 => rw [elim_neg hf] at h; cases h; exact ⟨h1, h2, fun _ => ⟨(ffo_some hf).1, fun j q => by cases q⟩, by omega⟩
    | none =>
      cases hp : ffo (isSg 1 E) n (n + 1) with
      | none =>
        cases hq : ffp (isPr E) n (n + 1) with
        | none => rw [elim_done hf hp hq] at h; cases h; exact ⟨h1, h2, fun q => by omega, by omega⟩
        | some w => obtain ⟨i, j⟩ := w; rw [elim_pair hf hp hq] at h; cases h; exact ⟨h1, h2, fun _ => ⟨(ffp_some hq).1, fun j q => by cases q; exact (ffp_some hq).2.1⟩, by omega⟩
      | some k2 =>
        cases hv : pvO n E k2 with
        | none => rw [elim_long hf hp hv] at h; cases h; exact ⟨h1, h2, fun q => by omega, by omega⟩
        | some E2 =>
          rw [elim_go hf hp hv] at h
          have hk := ffo_some hp
          exact elim_EW (EW_s h1 h2 hk.1 hv) (EI_s h2 hk.1 (isSg_L hk.2).1 hv) h
/-- the sum over a line's others -/
def smO (T : Nat → Bool) (N V : Nat → Fr) (n : Nat) : Nat → Fr → Option Fr
  | 0, a => some a
  | k + 1, a => if T (ordn n (n - k)) = true then ((fMul (N (ordn n (n - k))) (V (ordn n (n - k)))).bind (fAdd a)).bind (smO T N V n k) else smO T N V n k a
theorem smO_t {T : Nat → Bool} {N V : Nat → Fr} {n t : Nat} {a : Fr} (ht : t ≤ n) (h : T (ordn n t) = true) : smO T N V n (n + 1 - t) a = ((fMul (N (ordn n t)) (V (ordn n t))).bind (fAdd a)).bind (smO T N V n (n + 1 - (t + 1))) := by
  rw [show n + 1 - t = (n - t) + 1 by omega, smO, show n - (n - t) = t by omega, if_pos h, show n + 1 - (t + 1) = n - t by omega]
theorem smO_f {T : Nat → Bool} {N V : Nat → Fr} {n t : Nat} {a : Fr} (ht : t ≤ n) (h : T (ordn n t) = false) : smO T N V n (n + 1 - t) a = smO T N V n (n + 1 - (t + 1)) a := by
  rw [show n + 1 - t = (n - t) + 1 by omega, smO, show n - (n - t) = t by omega, if_neg (by rw [h]; decide), show n + 1 - (t + 1) = n - t by omega]
/-- the pivots' numbers, the last one first -/
def gbO (n : Nat) (E : ES) : Nat → (Nat → Fr) → Option (Nat → Fr)
  | 0, V => some V
  | s + 1, V => (smO (eT E s) (eN E s) V n (n + 1) (0, 1)).bind (fun z => gbO n E s (va_up V (eP E s) (ngF z)))
def z0 : Nat → Fr := fun _ => (0, 1)
def wit0 (k : Nat) (jo : Option Nat) (M : Nat → Nat → Fr) : Nat → Fr := match jo with
  | none => va_up z0 k (1, 1)
  | some j => va_up (va_up z0 k (1, 1)) j (if 0 < lg_cmp (M k j).1 0 then (-1, 1) else (1, 1))
theorem m1_sub (k : Nat) : nI k + Int32.ofInt (-1) = nI k - nI 1 := by
  rw [Int32.sub_eq_add_neg]; congr 1
def tw (e : Nat) : Int64 := 1 <<< ((nI e).toInt64 &&& 63)
theorem tw_ne : ∀ e, e ≤ 40 → tw e ≠ LEA := by decide
