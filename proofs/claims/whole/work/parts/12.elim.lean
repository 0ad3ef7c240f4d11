/-! ===== the elimination, as mathematics ===== -/
noncomputable def cif {α : Type} (p : Prop) (a b : α) : α := @ite α p (Classical.propDecidable p) a b
theorem cif_t {α : Type} {p : Prop} {a b : α} (h : p) : cif p a b = a := if_pos h
theorem cif_f {α : Type} {p : Prop} {a b : α} (h : ¬ p) : cif p a b = b := if_neg h
def ordn (n t : Nat) : Nat := if t < n then t + 1 else 0
theorem ordn_le (n t : Nat) : ordn n t ≤ n := by unfold ordn; split <;> omega
theorem ordn_inj {n a b : Nat} (ha : a ≤ n) (hb : b ≤ n) (h : ordn n a = ordn n b) : a = b := by
  unfold ordn at h
  split at h <;> split at h <;> omega
theorem ordn_onto {n k : Nat} (h : k ≤ n) : ∃ t, t ≤ n ∧ ordn n t = k := by
  by_cases h0 : k = 0
  · exact ⟨n, Nat.le_refl n, by unfold ordn; rw [if_neg (by omega)]; omega⟩
  · exact ⟨k - 1, by omega, by unfold ordn; rw [if_pos (by omega)]; omega⟩
/-- the first of THE ORDER's last k places with P -/
def ffo (P : Nat → Bool) (n : Nat) : Nat → Option Nat
  | 0 => none
  | k + 1 => if P (ordn n (n - k)) = true then some (ordn n (n - k)) else ffo P n k
theorem ffo_t {P : Nat → Bool} {n t : Nat} (ht : t ≤ n) (h : P (ordn n t) = true) : ffo P n (n + 1 - t) = some (ordn n t) := by
  rw [show n + 1 - t = (n - t) + 1 by omega, ffo, show n - (n - t) = t by omega, if_pos h]
theorem ffo_f {P : Nat → Bool} {n t : Nat} (ht : t ≤ n) (h : P (ordn n t) = false) : ffo P n (n + 1 - t) = ffo P n (n + 1 - (t + 1)) := by
  rw [show n + 1 - t = (n - t) + 1 by omega, ffo, show n - (n - t) = t by omega, if_neg (by rw [h]; decide)]
  congr 1
  omega
theorem ffo_e {P : Nat → Bool} {n t : Nat} (ht : n < t) : ffo P n (n + 1 - t) = none := by
  rw [show n + 1 - t = 0 by omega]; rfl
theorem ffo_some {P : Nat → Bool} {n : Nat} : ∀ {k j : Nat}, ffo P n k = some j → j ≤ n ∧ P j = true
  | 0, _, h => by cases h
  | k + 1, j, h => by
    rw [ffo] at h
    split at h
    · next hp => cases h; exact ⟨ordn_le _ _, hp⟩
    · exact ffo_some h
theorem ffo_none {P : Nat → Bool} {n : Nat} : ∀ {k : Nat}, ffo P n k = none → k ≤ n + 1 → ∀ t, n + 1 - k ≤ t → t ≤ n → P (ordn n t) = false
  | 0, _, hk, t, h1, h2 => by omega
  | k + 1, h, hk, t, h1, h2 => by
    rw [ffo] at h
    split at h
    · cases h
    · next hp =>
      by_cases e : t = n - k
      · rw [e]; exact Bool.eq_false_iff.mpr hp
      · exact ffo_none h (by omega) t (by omega) h2
theorem ffo_cong {P Q : Nat → Bool} {n : Nat} (h : ∀ j, j ≤ n → P j = Q j) : ∀ k, ffo P n k = ffo Q n k
  | 0 => rfl
  | k + 1 => by rw [ffo, ffo, h _ (ordn_le _ _), ffo_cong h k]
/-- the first pair -/
def ffp (P : Nat → Nat → Bool) (n : Nat) : Nat → Option (Nat × Nat)
  | 0 => none
  | k + 1 => match ffo (P (ordn n (n - k))) n k with
    | some j => some (ordn n (n - k), j)
    | none => ffp P n k
theorem ffp_t {P : Nat → Nat → Bool} {n t j : Nat} (ht : t ≤ n) (h : ffo (P (ordn n t)) n (n - t) = some j) : ffp P n (n + 1 - t) = some (ordn n t, j) := by
  rw [show n + 1 - t = (n - t) + 1 by omega, ffp, show n - (n - t) = t by omega, h]
theorem ffp_f {P : Nat → Nat → Bool} {n t : Nat} (ht : t ≤ n) (h : ffo (P (ordn n t)) n (n - t) = none) : ffp P n (n + 1 - t) = ffp P n (n + 1 - (t + 1)) := by
  rw [show n + 1 - t = (n - t) + 1 by omega, ffp, show n - (n - t) = t by omega, h]
  show ffp P n (n - t) = ffp P n (n + 1 - (t + 1))
  congr 1
  omega
theorem ffp_e {P : Nat → Nat → Bool} {n t : Nat} (ht : n < t) : ffp P n (n + 1 - t) = none := by
  rw [show n + 1 - t = 0 by omega]; rfl
theorem ffp_some {P : Nat → Nat → Bool} {n : Nat} : ∀ {k i j : Nat}, ffp P n k = some (i, j) → i ≤ n ∧ j ≤ n ∧ P i j = true
  | 0, _, _, h => by cases h
  | k + 1, i, j, h => by
    rw [ffp] at h
    split at h
    · next w hw =>
      cases h
      have := ffo_some hw
      exact ⟨ordn_le _ _, this.1, this.2⟩
    · exact ffp_some h
/-- matrix, what is LEFT, number of squares, pivots, weights, lines, with whom a pivot was left -/
abbrev ES : Type := (Nat → Nat → Fr) × (Nat → Bool) × Nat × (Nat → Nat) × (Nat → Fr) × (Nat → Nat → Fr) × (Nat → Nat → Bool)
abbrev eM (E : ES) : Nat → Nat → Fr := E.1
abbrev eL (E : ES) : Nat → Bool := E.2.1
abbrev eS (E : ES) : Nat := E.2.2.1
abbrev eP (E : ES) : Nat → Nat := E.2.2.2.1
abbrev eW (E : ES) : Nat → Fr := E.2.2.2.2.1
abbrev eN (E : ES) : Nat → Nat → Fr := E.2.2.2.2.2.1
abbrev eT (E : ES) : Nat → Nat → Bool := E.2.2.2.2.2.2
def rwO (E : ES) (k j : Nat) : Option Fr := if eL E j = true ∧ j ≠ k then fDiv (eM E k j) (eM E k k) else some (if j = k then (1, 1) else (0, 1))
def rwF (E : ES) (k j : Nat) : Fr := (rwO E k j).getD (0, 1)
def rwOk (n : Nat) (E : ES) (k : Nat) : Prop := ∀ j, j ≤ n → rwO E k j ≠ none
def midE (E : ES) (k : Nat) : ES := (eM E, va_up (eL E) k false, eS E + 1, va_up (eP E) (eS E) k, va_up (eW E) (eS E) (eM E k k), va_up (eN E) (eS E) (rwF E k), va_up (eT E) (eS E) (fun j => eL E j && decide (j ≠ k)))
def posn (n i : Nat) : Nat := if i = 0 then n else i - 1
theorem posn_ordn {n t : Nat} (h : t ≤ n) : posn n (ordn n t) = t := by
  unfold posn ordn
  split <;> split at * <;> omega
def cpO (E : ES) (k i j : Nat) : Option Fr := (fMul (eM E i k) (eN E (eS E - 1) j)).bind (fun x => fSub (eM E i j) x)
def nwO (n : Nat) (E : ES) (k i j : Nat) : Option Fr := if posn n i ≤ posn n j then cpO E k i j else cpO E k j i
def lsOk (n : Nat) (E : ES) (k : Nat) : Prop := ∀ i j, i ≤ n → j ≤ n → eL E i = true → eL E j = true → nwO n E k i j ≠ none
def lsE (n : Nat) (E : ES) (k : Nat) : ES := (fun i j => if eL E i = true ∧ eL E j = true then (nwO n E k i j).getD (0, 1) else eM E i j, E.2)
noncomputable def pvO (n : Nat) (E : ES) (k : Nat) : Option ES := cif (rwOk n E k ∧ lsOk n (midE E k) k) (some (lsE n (midE E k) k)) none
def isSg (sg : Int32) (E : ES) (k : Nat) : Bool := eL E k && decide (lg_cmp (eM E k k).1 0 = sg)
def isPr (E : ES) (i j : Nat) : Bool := eL E i && (eL E j && decide (¬ lg_cmp (eM E i j).1 0 = 0))
/-- 0: NEGATIVE by k or by a pair, 1: DONE, 2: TOO LONG -/
noncomputable def elim (n : Nat) : Nat → ES → Nat × Nat × Option Nat × ES
  | 0, E => (1, 0, none, E)
  | f + 1, E => match ffo (isSg (-1) E) n (n + 1) with
    | some k => (0, k, none, E)
    | none => match ffo (isSg 1 E) n (n + 1) with
      | none => match ffp (isPr E) n (n + 1) with
        | some (i, j) => (0, i, some j, E)
        | none => (1, 0, none, E)
      | some k => match pvO n E k with
        | none => (2, 0, none, E)
        | some E' => elim n f E'
theorem elim_neg {n f k : Nat} {E : ES} (h : ffo (isSg (-1) E) n (n + 1) = some k) : elim n (f + 1) E = (0, k, none, E) := by rw [elim, h]
theorem elim_pair {n f i j : Nat} {E : ES} (h : ffo (isSg (-1) E) n (n + 1) = none) (h2 : ffo (isSg 1 E) n (n + 1) = none) (h3 : ffp (isPr E) n (n + 1) = some (i, j)) : elim n (f + 1) E = (0, i, some j, E) := by rw [elim, h, h2, h3]
theorem elim_done {n f : Nat} {E : ES} (h : ffo (isSg (-1) E) n (n + 1) = none) (h2 : ffo (isSg 1 E) n (n + 1) = none) (h3 : ffp (isPr E) n (n + 1) = none) : elim n (f + 1) E = (1, 0, none, E) := by rw [elim, h, h2, h3]
theorem elim_long {n f k : Nat} {E : ES} (h : ffo (isSg (-1) E) n (n + 1) = none) (h2 : ffo (isSg 1 E) n (n + 1) = some k) (h3 : pvO n E k = none) : elim n (f + 1) E = (2, 0, none, E) := by rw [elim, h, h2]; simp only [h3]
theorem elim_go {n f k : Nat} {E E' : ES} (h : ffo (isSg (-1) E) n (n + 1) = none) (h2 : ffo (isSg 1 E) n (n + 1) = some k) (h3 : pvO n E k = some E') : elim n (f + 1) E = elim n f E' := by rw [elim, h, h2]; simp only [h3]
/-- how many are left -/
def cntL (lf : Nat → Bool) : Nat → Nat
  | 0 => 0
  | k + 1 => cntL lf k + (if lf k = true then 1 else 0)
theorem cntL_le (lf : Nat → Bool) : ∀ k, cntL lf k ≤ k
  | 0 => Nat.le_refl 0
  | k + 1 => by have := cntL_le lf k; rw [cntL]; split <;> omega
theorem cntL_up (lf : Nat → Bool) {i : Nat} (hi : lf i = true) : ∀ {k : Nat}, i < k → cntL (va_up lf i false) k + 1 = cntL lf k
  | 0, h => by omega
  | k + 1, h => by
    rw [cntL, cntL]
    by_cases e : i = k
    · subst e
      rw [va_up_self, hi]
      have : ∀ q, q ≤ i → cntL (va_up lf i false) q = cntL lf q := by
        intro q
        induction q with
        | zero => intro _; rfl
        | succ q ih => intro hq; rw [cntL, cntL, ih (by omega), va_up_ne _ _ (by omega)]
      rw [this i (Nat.le_refl i)]
      simp
    · rw [va_up_ne _ _ (fun q => e q.symm)]
      have := cntL_up lf hi (show i < k by omega)
      omega
theorem cntL_0 {lf : Nat → Bool} : ∀ {k : Nat}, cntL lf k = 0 → ∀ i, i < k → lf i = false
  | 0, _, i, hi => by omega
  | k + 1, h, i, hi => by
    rw [cntL] at h
    by_cases e : i = k
    · subst e
      cases hl : lf i with
      | false => rfl
      | true => rw [hl] at h; simp at h
    · exact cntL_0 (show cntL lf k = 0 by omega) i (by omega)
theorem cntL_all {lf : Nat → Bool} : ∀ {k : Nat}, (∀ i, i < k → lf i = true) → cntL lf k = k
  | 0, _ => rfl
  | k + 1, h => by rw [cntL, cntL_all (fun i hi => h i (by omega)), h k (by omega)]; rfl
theorem ffo_nil {P : Nat → Bool} {n : Nat} (h : ∀ j, j ≤ n → P j = false) : ∀ k, ffo P n k = none
  | 0 => rfl
  | k + 1 => by rw [ffo, h _ (ordn_le _ _), if_neg (by decide), ffo_nil h k]
theorem ffp_nil {P : Nat → Nat → Bool} {n : Nat} (h : ∀ i j, i ≤ n → j ≤ n → P i j = false) : ∀ k, ffp P n k = none
  | 0 => rfl
  | k + 1 => by rw [ffp, ffo_nil (fun j hj => h _ j (ordn_le _ _) hj), ffp_nil h k]
theorem pvO_L {n k : Nat} {E E' : ES} (h : pvO n E k = some E') : eL E' = va_up (eL E) k false ∧ eS E' = eS E + 1 := by
  unfold pvO at h
  by_cases hp : rwOk n E k ∧ lsOk n (midE E k) k
  · rw [cif_t hp] at h
    cases h
    exact ⟨rfl, rfl⟩
  · rw [cif_f hp] at h
    cases h
/-- more turns than are left to take make no difference -/
theorem elim_more {n : Nat} : ∀ {f : Nat} {E : ES}, cntL (eL E) (n + 1) ≤ f → elim n (f + 1) E = elim n f E
  | 0, E, h => by
    have h0 := cntL_0 (Nat.le_zero.mp h)
    rw [elim_done (ffo_nil (fun j hj => by unfold isSg; rw [h0 j (by omega)]; rfl) _) (ffo_nil (fun j hj => by unfold isSg; rw [h0 j (by omega)]; rfl) _) (ffp_nil (fun i j hi hj => by unfold isPr; rw [h0 i (by omega)]; rfl) _)]
    rfl
  | f + 1, E, h => by
    cases h1 : ffo (isSg (-1) E) n (n + 1) with
    | some k => rw [elim_neg h1, elim_neg h1]
    | none =>
      cases h2 : ffo (isSg 1 E) n (n + 1) with
      | none =>
        cases h3 : ffp (isPr E) n (n + 1) with
        | none => rw [elim_done h1 h2 h3, elim_done h1 h2 h3]
        | some q => obtain ⟨i, j⟩ := q; rw [elim_pair h1 h2 h3, elim_pair h1 h2 h3]
      | some k =>
        cases h3 : pvO n E k with
        | none => rw [elim_long h1 h2 h3, elim_long h1 h2 h3]
        | some E' =>
          rw [elim_go h1 h2 h3, elim_go h1 h2 h3]
          apply elim_more
          have hk := ffo_some h2
          have hl : eL E k = true := by
            have := hk.2
            unfold isSg at this
            exact (Bool.and_eq_true_iff.mp this).1
          rw [(pvO_L h3).1]
          have := cntL_up (eL E) hl (show k < n + 1 by omega)
          omega
