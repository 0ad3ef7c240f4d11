/-! ===== the words: those that a call carries by itself, and the others (nest mates, arrays of references) ===== -/
def tblG : List Cond := lw_tbl.filter goodWord
def isXw : Cond → Bool
  | .fieldLinkNest .. => true
  | .methodLinkNest .. => true
  | .arrayOver (.object _) => true
  | _ => false
def xw : List Cond := lw_tbl.filter isXw
def NW (U : State) : Prop := ∀ w ∈ xw, va_Nw w U
theorem NW.same {u U : State} (h : u.vm = U.vm) (hn : NW u) : NW U := by
  intro w hw
  have hk := (List.mem_filter.mp hw).2
  have h1 := hn w hw
  cases w <;> first | (simp [isXw] at hk; done) | exact va_Nw.same rfl h h1 | (rename_i t; cases t <;> first | (simp [isXw] at hk; done) | exact va_AO.moved (by rw [h]; exact Vm.Alike.refl _) h1)
theorem NW.warm {s U : State} (hW : s.WarmedH U.vm) (hn : NW s) : NW U := by
  intro w hw
  have hk := (List.mem_filter.mp hw).2
  have h1 := hn w hw
  cases w <;> first | (simp [isXw] at hk; done) | exact va_Nw.warmF hW h1 | exact va_Nw.warmM hW h1 | (rename_i t; cases t <;> first | (simp [isXw] at hk; done) | exact va_AO.moved hW.alike h1)
set_option maxRecDepth 100000 in
theorem xx_ig : ∀ w ∈ (wsX00 ++ wsX10 ++ wsX20 ++ wsX30 ++ wsX40 ++ wsX50 ++ wsX60 ++ wsX70), w ∈ tblG := by decide +kernel
/-! ===== regions: one object with all that it made; its primitive contents as functions of offset and place ===== -/
abbrev ShT : Type := Nat × Nat × (Nat → Nat) × List (Nat × Nat)
abbrev RgT : Type := Nat × (Nat → ShT)
abbrev GT : Type := va_G × (Nat → ClassId) × Nat
abbrev II : Type := Nat → Nat → Int32
abbrev LL : Type := Nat → Nat → Int64
abbrev gB (G : GT) : Nat := G.2.2
def gTys (G : GT) : List (ClassId × FieldType) := [(G.2.1 0, .int), (G.2.1 1, .long), (G.2.1 2, .boolean), (G.2.1 3, .object RX2), (G.2.1 4, .object RX5), (G.2.1 5, .object RX1)]
def rg_fv (B : Nat) (I : II) (L : LL) (o k : Nat) (fd : Nat × Nat) : Value := if fd.1 = 0 then .int (I o k) else if fd.1 = 1 then .long (L o k) else if fd.1 = 2 then .ref (B + fd.2) else .null
def rg_fvs (B : Nat) (I : II) (L : LL) (o : Nat) : Nat → List (Nat × Nat) → List Value
  | _, [] => []
  | k, fd :: r => rg_fv B I L o k fd :: rg_fvs B I L o (k + 1) r
theorem rg_fvs_get (B : Nat) (I : II) (L : LL) (o : Nat) : ∀ (fs : List (Nat × Nat)) (j k : Nat), (rg_fvs B I L o j fs)[k]? = (fs[k]?).map (rg_fv B I L o (j + k))
  | [], j, k => by simp [rg_fvs]
  | fd :: r, j, 0 => by simp [rg_fvs]
  | fd :: r, j, k + 1 => by
    rw [rg_fvs, List.getElem?_cons_succ, rg_fvs_get B I L o r (j + 1) k, List.getElem?_cons_succ]
    congr 2
    omega
theorem rg_fvs_len (B : Nat) (I : II) (L : LL) (o : Nat) : ∀ (fs : List (Nat × Nat)) (j : Nat), (rg_fvs B I L o j fs).length = fs.length
  | [], j => rfl
  | fd :: r, j => by rw [rg_fvs, List.length_cons, rg_fvs_len B I L o r (j + 1), List.length_cons]
def rg_tg (B : Nat) (t : Nat) : Option Nat := if t = 0 then none else some (B + t)
def rg_cell (G : GT) (I : II) (L : LL) (o : Nat) (h : ShT) : va_E :=
  if h.1 = 0 then .inl (G.2.1 0, h.2.1, .inl (I o)) else if h.1 = 1 then .inl (G.2.1 1, h.2.1, .inr (.inl (L o))) else if h.1 = 2 then .inl (G.2.1 2, h.2.1, .inl (I o))
  else if h.1 < 6 then .inl (G.2.1 h.1, h.2.1, .inr (.inr (.inr (.inr (fun j => rg_tg (gB G) (h.2.2.1 j)))))) else .inr (h.1 - 6, rg_fvs (gB G) I L o 0 h.2.2.2)
def rg_W (G : GT) (rg : RgT) (I : II) (L : LL) : va_W := (List.range rg.1).map fun o => (gB G + o, rg_cell G I L o (rg.2 o))
def rg_A (G : GT) (rg : RgT) : Nat → Prop := fun q => gB G ≤ q ∧ q < gB G + rg.1
theorem rg_at {G : GT} {rg : RgT} {I : II} {L : LL} {o : Nat} (h : o < rg.1) : (rg_W G rg I L)[o]? = some (gB G + o, rg_cell G I L o (rg.2 o)) := by
  simp [rg_W, h]
theorem rg_at_inv {G : GT} {rg : RgT} {I : II} {L : LL} {o : Nat} {q : Nat × va_E} (h : (rg_W G rg I L)[o]? = some q) : o < rg.1 ∧ q = (gB G + o, rg_cell G I L o (rg.2 o)) := by
  have hl := (List.getElem?_eq_some_iff.mp h).1
  have h1 : o < rg.1 := by simpa [rg_W] using hl
  rw [rg_at h1] at h
  exact ⟨h1, (Option.some.inj h).symm⟩
theorem rg_D {G : GT} {rg : RgT} {I : II} {L : LL} : va_D (rg_A G rg) (rg_W G rg I L) := by
  refine ⟨fun i j x y hi hj hxy => ?_, fun k q hk => ?_⟩
  · obtain ⟨-, rfl⟩ := rg_at_inv hi
    obtain ⟨-, rfl⟩ := rg_at_inv hj
    exact Nat.add_left_cancel hxy
  · obtain ⟨h1, rfl⟩ := rg_at_inv hk
    exact ⟨Nat.le_add_right _ _, Nat.add_lt_add_left h1 _⟩
theorem rg_fvs_cong {B : Nat} {I I' : II} {L L' : LL} {o : Nat} (hI : I' o = I o) (hL : L' o = L o) : ∀ (fs : List (Nat × Nat)) (j : Nat), rg_fvs B I' L' o j fs = rg_fvs B I L o j fs
  | [], _ => rfl
  | fd :: r, j => by rw [rg_fvs, rg_fvs, rg_fvs_cong hI hL r (j + 1), rg_fv, rg_fv, hI, hL]
theorem rg_cell_cong {G : GT} {I I' : II} {L L' : LL} {o : Nat} {h : ShT} (hI : I' o = I o) (hL : L' o = L o) : rg_cell G I' L' o h = rg_cell G I L o h := by
  rw [rg_cell, rg_cell, hI, hL, rg_fvs_cong hI hL]
theorem rg_set {G : GT} {rg : RgT} {I I' : II} {L L' : LL} {o : Nat} {e : va_E} (ho : o < rg.1) (hI : ∀ q, q ≠ o → I' q = I q) (hL : ∀ q, q ≠ o → L' q = L q) (he : rg_cell G I' L' o (rg.2 o) = e) : (rg_W G rg I L).set o (gB G + o, e) = rg_W G rg I' L' := by
  apply List.ext_getElem?
  intro j
  by_cases hj : j = o
  · subst hj
    rw [List.getElem?_set_self (by simpa [rg_W] using ho), rg_at ho, he]
  · rw [List.getElem?_set_ne (Ne.symm hj)]
    by_cases hl : j < rg.1
    · rw [rg_at hl, rg_at hl, rg_cell_cong (hI j hj) (hL j hj)]
    · rw [List.getElem?_eq_none (by simpa [rg_W] using Nat.le_of_not_lt hl), List.getElem?_eq_none (by simpa [rg_W] using Nat.le_of_not_lt hl)]
def up2 {α : Type} (f : Nat → Nat → α) (o k : Nat) (v : α) : Nat → Nat → α := va_up f o (va_up (f o) k v)
theorem up2_ne {α : Type} (f : Nat → Nat → α) {o k q : Nat} {v : α} (h : q ≠ o) : up2 f o k v q = f q := va_up_ne _ _ h
theorem up2_at {α : Type} (f : Nat → Nat → α) (o k q j : Nat) (v : α) : up2 f o k v q j = if q = o then (if j = k then v else f q j) else f q j := by
  unfold up2 va_up
  by_cases h : q = o
  · subst h; simp
  · simp [h]
theorem rg_fvs_set {B : Nat} {I : II} {L : LL} {o k : Nat} {v : Int32} {z : Nat} : ∀ (fs : List (Nat × Nat)) (j i : Nat), j + i = k → fs[i]? = some (0, z) → (rg_fvs B I L o j fs).set i (.int v) = rg_fvs B (up2 I o k v) L o j fs
  | [], _, i, _, h => by simp at h
  | fd :: r, j, 0, e, h => by
    rw [List.getElem?_cons_zero] at h
    cases h
    have hr : ∀ (fs : List (Nat × Nat)) (q : Nat), k < q → rg_fvs B I L o q fs = rg_fvs B (up2 I o k v) L o q fs := by
      intro fs
      induction fs with
      | nil => intro q _; rfl
      | cons a r ih =>
        intro q hq
        rw [rg_fvs, rg_fvs, ih (q + 1) (by omega), rg_fv, rg_fv, up2_at]
        simp [show q ≠ k by omega]
    rw [rg_fvs, rg_fvs, List.set_cons_zero, hr r (j + 1) (by omega), rg_fv, up2_at]
    simp [show j = k by omega]
  | fd :: r, j, i + 1, e, h => by
    rw [List.getElem?_cons_succ] at h
    rw [rg_fvs, rg_fvs, List.set_cons_succ, rg_fvs_set (k := k) r (j + 1) i (by omega) h, rg_fv, rg_fv, up2_at]
    simp [show j ≠ k by omega]
theorem rg_fvs_setL {B : Nat} {I : II} {L : LL} {o k : Nat} {v : Int64} {z : Nat} : ∀ (fs : List (Nat × Nat)) (j i : Nat), j + i = k → fs[i]? = some (1, z) → (rg_fvs B I L o j fs).set i (.long v) = rg_fvs B I (up2 L o k v) o j fs
  | [], _, i, _, h => by simp at h
  | fd :: r, j, 0, e, h => by
    rw [List.getElem?_cons_zero] at h
    cases h
    have hr : ∀ (fs : List (Nat × Nat)) (q : Nat), k < q → rg_fvs B I L o q fs = rg_fvs B I (up2 L o k v) o q fs := by
      intro fs
      induction fs with
      | nil => intro q _; rfl
      | cons a r ih =>
        intro q hq
        rw [rg_fvs, rg_fvs, ih (q + 1) (by omega), rg_fv, rg_fv, up2_at]
        simp [show q ≠ k by omega]
    rw [rg_fvs, rg_fvs, List.set_cons_zero, hr r (j + 1) (by omega), rg_fv, up2_at]
    simp [show j = k by omega]
  | fd :: r, j, i + 1, e, h => by
    rw [List.getElem?_cons_succ] at h
    rw [rg_fvs, rg_fvs, List.set_cons_succ, rg_fvs_setL (k := k) r (j + 1) i (by omega) h, rg_fv, rg_fv, up2_at]
    simp [show j ≠ k by omega]
/-! ===== locals by place ===== -/
abbrev LV : Type := List (Option Value)
def asl : Nat → LV → List (Nat × Value)
  | _, [] => []
  | i, none :: r => asl (i + 1) r
  | i, some v :: r => (i, v) :: asl (i + 1) r
def dropc : Option Value → Option Value
  | some (.long _) => none
  | some (.double _) => none
  | w => w
def st1 : LV → Nat → Value → LV
  | [], _, _ => []
  | _ :: r, 0, v => some v :: r
  | a :: r, 1, v => dropc a :: st1 r 0 v
  | a :: r, n + 2, v => a :: st1 r (n + 1) v
def st2 : LV → Nat → Value → LV
  | [], _, _ => []
  | [_], 0, v => [some v]
  | _ :: _ :: r, 0, v => some v :: none :: r
  | a :: r, 1, v => dropc a :: st2 r 0 v
  | a :: r, n + 2, v => a :: st2 r (n + 1) v
theorem asl_mem : ∀ (lv : LV) (j i : Nat) (v : Value), lv[i]? = some (some v) → (j + i, v) ∈ asl j lv
  | [], _, _, _, h => by simp at h
  | a :: r, j, 0, v, h => by
    rw [List.getElem?_cons_zero] at h
    cases h
    exact List.mem_cons_self
  | a :: r, j, i + 1, v, h => by
    rw [List.getElem?_cons_succ] at h
    have := asl_mem r (j + 1) i v h
    rw [show j + 1 + i = j + (i + 1) by omega] at this
    cases a with
    | none => exact this
    | some w => exact List.mem_cons_of_mem _ this
theorem asl_inv : ∀ (lv : LV) (j : Nat) (q : Nat × Value), q ∈ asl j lv → ∃ i, q.1 = j + i ∧ lv[i]? = some (some q.2)
  | [], _, _, h => by simp [asl] at h
  | none :: r, j, q, h => by
    obtain ⟨i, h1, h2⟩ := asl_inv r (j + 1) q h
    exact ⟨i + 1, by omega, by rw [List.getElem?_cons_succ]; exact h2⟩
  | some v :: r, j, q, h => by
    rcases List.mem_cons.mp h with rfl | h
    · exact ⟨0, rfl, rfl⟩
    · obtain ⟨i, h1, h2⟩ := asl_inv r (j + 1) q h
      exact ⟨i + 1, by omega, by rw [List.getElem?_cons_succ]; exact h2⟩
theorem dropc_some {a : Option Value} {w : Value} (h : dropc a = some w) : a = some w ∧ w.category = 1 := by
  cases a with
  | none => cases h
  | some x => cases x <;> simp_all [dropc, Value.category] <;> subst h <;> rfl
theorem st1_get : ∀ (lv : LV) (n : Nat) (v : Value) (i : Nat) (w : Value), (st1 lv n v)[i]? = some (some w) → (i = n ∧ w = v) ∨ (i ≠ n ∧ lv[i]? = some (some w) ∧ ¬ (i + 1 = n ∧ w.category = 2))
  | [], _, _, _, _, h => by simp [st1] at h
  | a :: r, 0, v, 0, w, h => by simp [st1] at h; exact Or.inl ⟨rfl, h.symm⟩
  | a :: r, 0, v, i + 1, w, h => by
    simp only [st1, List.getElem?_cons_succ] at h
    exact Or.inr ⟨by omega, by rw [List.getElem?_cons_succ]; exact h, by omega⟩
  | a :: r, 1, v, 0, w, h => by
    simp only [st1, List.getElem?_cons_zero, Option.some.injEq] at h
    obtain ⟨h1, h2⟩ := dropc_some h
    exact Or.inr ⟨by omega, by rw [List.getElem?_cons_zero, h1], by omega⟩
  | a :: r, 1, v, i + 1, w, h => by
    simp only [st1, List.getElem?_cons_succ] at h
    rcases st1_get r 0 v i w h with ⟨h1, h2⟩ | ⟨h1, h2, h3⟩
    · exact Or.inl ⟨by omega, h2⟩
    · exact Or.inr ⟨by omega, by rw [List.getElem?_cons_succ]; exact h2, by omega⟩
  | a :: r, n + 2, v, 0, w, h => by
    simp only [st1, List.getElem?_cons_zero] at h
    exact Or.inr ⟨by omega, by rw [List.getElem?_cons_zero]; exact h, by omega⟩
  | a :: r, n + 2, v, i + 1, w, h => by
    simp only [st1, List.getElem?_cons_succ] at h
    rcases st1_get r (n + 1) v i w h with ⟨h1, h2⟩ | ⟨h1, h2, h3⟩
    · exact Or.inl ⟨by omega, h2⟩
    · exact Or.inr ⟨by omega, by rw [List.getElem?_cons_succ]; exact h2, fun q => h3 ⟨by omega, q.2⟩⟩
theorem st2_get : ∀ (lv : LV) (n : Nat) (v : Value) (i : Nat) (w : Value), (st2 lv n v)[i]? = some (some w) → (i = n ∧ w = v) ∨ (i ≠ n ∧ i ≠ n + 1 ∧ lv[i]? = some (some w) ∧ ¬ (i + 1 = n ∧ w.category = 2))
  | [], _, _, _, _, h => by simp [st2] at h
  | [a], 0, v, 0, w, h => by simp [st2] at h; exact Or.inl ⟨rfl, h.symm⟩
  | [a], 0, v, i + 1, w, h => by simp [st2] at h
  | a :: b :: r, 0, v, 0, w, h => by simp [st2] at h; exact Or.inl ⟨rfl, h.symm⟩
  | a :: b :: r, 0, v, 1, w, h => by simp [st2] at h
  | a :: b :: r, 0, v, i + 2, w, h => by
    simp only [st2, List.getElem?_cons_succ] at h
    exact Or.inr ⟨by omega, by omega, by rw [List.getElem?_cons_succ, List.getElem?_cons_succ]; exact h, by omega⟩
  | a :: r, 1, v, 0, w, h => by
    simp only [st2, List.getElem?_cons_zero, Option.some.injEq] at h
    obtain ⟨h1, h2⟩ := dropc_some h
    exact Or.inr ⟨by omega, by omega, by rw [List.getElem?_cons_zero, h1], by omega⟩
  | a :: r, 1, v, i + 1, w, h => by
    simp only [st2, List.getElem?_cons_succ] at h
    rcases st2_get r 0 v i w h with ⟨h1, h2⟩ | ⟨h1, h0, h2, h3⟩
    · exact Or.inl ⟨by omega, h2⟩
    · exact Or.inr ⟨by omega, by omega, by rw [List.getElem?_cons_succ]; exact h2, by omega⟩
  | a :: r, n + 2, v, 0, w, h => by
    simp only [st2, List.getElem?_cons_zero] at h
    exact Or.inr ⟨by omega, by omega, by rw [List.getElem?_cons_zero]; exact h, by omega⟩
  | a :: r, n + 2, v, i + 1, w, h => by
    simp only [st2, List.getElem?_cons_succ] at h
    rcases st2_get r (n + 1) v i w h with ⟨h1, h2⟩ | ⟨h1, h0, h2, h3⟩
    · exact Or.inl ⟨by omega, h2⟩
    · exact Or.inr ⟨by omega, by omega, by rw [List.getElem?_cons_succ]; exact h2, fun q => h3 ⟨by omega, q.2⟩⟩
theorem lvs_1 {ls : Array Slot} {nL : Nat} {lv : LV} {i : Nat} {v : Value} (h : lv_has ls nL ((i, v) :: (asl 0 lv).filter (fun q => !(q.1 == i) && !(q.1 + 1 == i && q.2.category == 2)))) : lv_has ls nL (asl 0 (st1 lv i v)) := by
  refine ⟨h.1, h.2.1, fun q hq => h.2.2 q ?_⟩
  obtain ⟨j, h1, h2⟩ := asl_inv _ _ _ hq
  rw [Nat.zero_add] at h1
  rcases st1_get _ _ _ _ _ h2 with ⟨h3, h4⟩ | ⟨h3, h4, h5⟩
  · obtain ⟨a, b⟩ := q
    simp only at h1 h4
    subst h1; subst h3; subst h4
    exact List.mem_cons_self
  · refine List.mem_cons_of_mem _ (List.mem_filter.mpr ⟨?_, ?_⟩)
    · have := asl_mem lv 0 j q.2 h4
      rw [Nat.zero_add, ← h1] at this
      exact this
    · simp only [Bool.and_eq_true, Bool.not_eq_true', beq_eq_false_iff_ne, ne_eq, Bool.and_eq_false_iff]
      refine ⟨by omega, ?_⟩
      by_cases hc : q.1 + 1 = i
      · exact Or.inr (fun z => h5 ⟨by omega, z⟩)
      · exact Or.inl hc
theorem lvs_2 {ls : Array Slot} {nL : Nat} {lv : LV} {i : Nat} {v : Value} (h : lv_has ls nL ((i, v) :: (asl 0 lv).filter (fun q => !(q.1 == i) && (!(q.1 == i + 1) && !(q.1 + 1 == i && q.2.category == 2))))) : lv_has ls nL (asl 0 (st2 lv i v)) := by
  refine ⟨h.1, h.2.1, fun q hq => h.2.2 q ?_⟩
  obtain ⟨j, h1, h2⟩ := asl_inv _ _ _ hq
  rw [Nat.zero_add] at h1
  rcases st2_get _ _ _ _ _ h2 with ⟨h3, h4⟩ | ⟨h3, h0, h4, h5⟩
  · obtain ⟨a, b⟩ := q
    simp only at h1 h4
    subst h1; subst h3; subst h4
    exact List.mem_cons_self
  · refine List.mem_cons_of_mem _ (List.mem_filter.mpr ⟨?_, ?_⟩)
    · have := asl_mem lv 0 j q.2 h4
      rw [Nat.zero_add, ← h1] at this
      exact this
    · simp only [Bool.and_eq_true, Bool.not_eq_true', beq_eq_false_iff_ne, ne_eq, Bool.and_eq_false_iff]
      refine ⟨by omega, by omega, ?_⟩
      by_cases hc : q.1 + 1 = i
      · exact Or.inr (fun z => h5 ⟨by omega, z⟩)
      · exact Or.inl hc
theorem lvg {ls : Array Slot} {nL : Nat} {lv : LV} (h : lv_has ls nL (asl 0 lv)) {i : Nat} {v : Value} (hi : lv[i]? = some (some v)) : ls[i]? = some (.val v) := by
  have := asl_mem lv 0 i v hi
  rw [Nat.zero_add] at this
  exact h.2.2 _ this
