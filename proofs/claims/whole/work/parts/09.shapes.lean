/-! ===== shapes of the class's objects, frames ===== -/
def isMx (rg : RgT) (o : Nat) : Prop := Ob rg o 3 [(2, o + 1), (2, o + 27)] ∧ Rr rg (o + 1) 3 25 (fun j => o + 2 + j) ∧ ∀ j, j < 26 → isF rg (o + 2 + j)
def isSq (rg : RgT) (o : Nat) : Prop := Ob rg o 5 [(2, o + 1), (2, o + 2), (0, 0)] ∧ isF rg (o + 1) ∧ Rr rg (o + 2) 3 5 (fun j => o + 3 + j) ∧ ∀ j, j < 5 → isF rg (o + 3 + j)
def isFm (rg : RgT) (o : Nat) : Prop := Ob rg o 1 [(2, o + 1)] ∧ Ar rg (o + 1) 0 25
def isEl (rg : RgT) (o : Nat) : Prop := Ob rg o 0 [(2, o + 1), (2, o + 29), (2, o + 30), (2, o + 31), (2, o + 37), (2, o + 38), (0, 0), (0, 0), (0, 0), (0, 0)] ∧ isMx rg (o + 1) ∧ Ar rg (o + 29) 2 5 ∧ Rr rg (o + 30) 4 5 (fun j => o + 39 + 8 * j) ∧ Rr rg (o + 31) 3 5 (fun j => o + 32 + j) ∧ (∀ j, j < 5 → isF rg (o + 32 + j)) ∧ isF rg (o + 37) ∧ isF rg (o + 38) ∧ ∀ s, s < 5 → isSq rg (o + 39 + 8 * s)
def isPt (rg : RgT) (o : Nat) : Prop := Ob rg o 4 [(2, o + 1), (2, o + 7), (2, o + 8), (0, 0)] ∧ Rr rg (o + 1) 3 5 (fun j => o + 2 + j) ∧ (∀ j, j < 5 → isF rg (o + 2 + j)) ∧ isF rg (o + 7) ∧ isF rg (o + 8)
/-- outside lo .. hi nothing has changed -/
def Fm {α : Type} (lo hi : Nat) (f g : Nat → α) : Prop := ∀ q, ¬ (lo ≤ q ∧ q < hi) → g q = f q
theorem Fm.rf {α : Type} {lo hi : Nat} {f : Nat → α} : Fm lo hi f f := fun _ _ => rfl
theorem Fm.set {lo hi o : Nat} {L L1 : LL} {x : Fr} (h : Fm lo hi L L1) (h1 : lo ≤ o) (h2 : o < hi) : Fm lo hi L (setF L1 o x) := fun q hq => by
  rw [setF_ne (fun e => hq (by omega))]
  exact h q hq
theorem Fm.trans {α : Type} {lo hi : Nat} {f g h : Nat → α} (a : Fm lo hi f g) (b : Fm lo hi g h) : Fm lo hi f h := fun q hq => (b q hq).trans (a q hq)
theorem Fm.mono {α : Type} {lo hi lo2 hi2 : Nat} {f g : Nat → α} (a : Fm lo hi f g) (h1 : lo2 ≤ lo) (h2 : hi ≤ hi2) : Fm lo2 hi2 f g := fun q hq => a q (fun z => hq (by omega))
theorem Fm.fr {lo hi q : Nat} {L L1 : LL} (h : Fm lo hi L L1) (hq : ¬ (lo ≤ q ∧ q < hi)) : fr L1 q = fr L q := by
  unfold _root_.Jvm.Pilot.@@N@@.fr
  rw [h q hq]
theorem Put_some {I : II} {L : LL} {o : Nat} {x : Option Fr} {z : Fr} {r : Int32} {I1 : II} {L1 : LL} (h : Put I L o x r I1 L1) (hx : x = some z) : r = b2i true ∧ I = I1 ∧ setF L o z = L1 := by
  obtain ⟨h1, ⟨w, hw, h2, h3⟩ | ⟨hw, -, -⟩⟩ := h
  · rw [hx] at hw
    cases hw
    exact ⟨h2, h1, h3⟩
  · rw [hx] at hw
    cases hw
/-- the place of a pair in a form's numbers -/
def ix (i j : Nat) : Nat := min i j * 5 + max i j
theorem ix_comm (i j : Nat) : ix i j = ix j i := by unfold ix; rw [Nat.min_comm, Nat.max_comm]
theorem ix_lt {i j : Nat} (h : i < 5) (h2 : j < 5) : ix i j < 25 := by unfold ix; omega
/-- the number that a form with this number at i j has in its matrix there -/
def hv (v : Int32) (i j : Nat) : Fr := red v.toInt64 (if i = j then 1 else 2)
theorem i2l_ne (v : Int32) : v.toInt64 ≠ LEA := by
  rw [ne_LEA, Int32.toInt_toInt64]
  have := Int32.le_toInt v
  simp at this
  omega
theorem hv_1 {v : Int32} {i j : Nat} (h : i = j) : fPut (decO v.toInt64) (decO 1) = some (hv v i j) := by
  rw [fPut_4 (i2l_ne v) (by decide) (by decide), hv, if_pos h]
theorem hv_2 {v : Int32} {i j : Nat} (h : ¬ i = j) : fPut (decO v.toInt64) (decO 2) = some (hv v i j) := by
  rw [fPut_4 (i2l_ne v) (by decide) (by decide), hv, if_neg h]
/-- a matrix at o, taken from numbers f, up to the place i j -/
def TK (f : Nat → Int32) (o n : Nat) (L : LL) (i j : Nat) : Prop := ∀ a b, a ≤ n → b ≤ n → (a < i ∨ (a = i ∧ b < j)) → fr L (o + 2 + (a * 5 + b)) = hv (f (ix a b)) a b
theorem TK_0 {f : Nat → Int32} {o n : Nat} {L : LL} : TK f o n L 0 0 := fun a b _ _ h => by omega
theorem TK_s {f : Nat → Int32} {o n : Nat} {L : LL} {i j : Nat} (h : TK f o n L i j) (hn : n < 5) (hj : j ≤ n) : TK f o n (setF L (o + 2 + (i * 5 + j)) (hv (f (ix i j)) i j)) i (j + 1) := by
  intro a b ha hb hab
  rw [fr_setF]
  split
  · next e =>
    have h1 : a = i := by omega
    have h2 : b = j := by omega
    rw [h1, h2]
  · next e => exact h a b ha hb (by
      rcases hab with q | ⟨q1, q2⟩
      · exact Or.inl q
      · refine Or.inr ⟨q1, ?_⟩
        have : b ≠ j := fun z => e (by rw [q1, z])
        omega)
theorem TK_n {f : Nat → Int32} {o n : Nat} {L : LL} {i j : Nat} (h : TK f o n L i j) (hj : n < j) : TK f o n L (i + 1) 0 := fun a b ha hb hab => h a b ha hb (by omega)
theorem fr_at (L : LL) (o : Nat) : fr L o = (L o 0, L o 1) := rfl
/-- a goal's number less a multiple of a condition's -/
def tlO (g c : Nat → Int32) (mu : Fr) (i j : Nat) : Option Fr := (fMul mu (hv (c (ix i j)) i j)).bind (fun x => fSub (hv (g (ix i j)) i j) x)
theorem hv_comm (v : Int32) (i j : Nat) : hv v i j = hv v j i := by
  unfold hv
  by_cases h : i = j
  · rw [if_pos h, if_pos h.symm]
  · rw [if_neg h, if_neg (fun q => h q.symm)]
theorem tlO_comm (g c : Nat → Int32) (mu : Fr) (i j : Nat) : tlO g c mu i j = tlO g c mu j i := by
  unfold tlO
  rw [ix_comm i j, hv_comm _ i j, hv_comm _ i j]
def prc (i j a b : Nat) : Prop := min a b < i ∨ (min a b = i ∧ max a b < j)
def TL (g c : Nat → Int32) (mu : Fr) (o n : Nat) (L : LL) (i j : Nat) : Prop := ∀ a b, a ≤ n → b ≤ n → (prc i j a b → tlO g c mu a b = some (fr L (o + 2 + (a * 5 + b)))) ∧ (¬ prc i j a b → fr L (o + 2 + (a * 5 + b)) = hv (g (ix a b)) a b)
theorem TL_0 {g c : Nat → Int32} {mu : Fr} {o n : Nat} {L : LL} (h : TK g o n L (n + 1) 0) : TL g c mu o n L 0 0 := fun a b ha hb => ⟨fun q => by unfold prc at q; omega, fun _ => h a b ha hb (by omega)⟩
theorem TL_n {g c : Nat → Int32} {mu : Fr} {o n : Nat} {L : LL} {i j : Nat} (h : TL g c mu o n L i j) (hj : n < j) : TL g c mu o n L (i + 1) (i + 1) := fun a b ha hb => ⟨fun q => (h a b ha hb).1 (by unfold prc at q ⊢; omega), fun q => (h a b ha hb).2 (fun z => q (by unfold prc at z ⊢; omega))⟩
theorem TL_s {g c : Nat → Int32} {mu : Fr} {o n : Nat} {L L4 : LL} {i j : Nat} {z : Fr} (h : TL g c mu o n L i j) (hn : n < 5) (hij : i ≤ j) (hj : j ≤ n) (hz : tlO g c mu i j = some z) (h1 : fr L4 (o + 2 + (i * 5 + j)) = z) (h2 : fr L4 (o + 2 + (j * 5 + i)) = z) (h3 : ∀ q, q < 25 → q ≠ i * 5 + j → q ≠ j * 5 + i → fr L4 (o + 2 + q) = fr L (o + 2 + q)) : TL g c mu o n L4 i (j + 1) := by
  intro a b ha hb
  by_cases e1 : a = i ∧ b = j
  · obtain ⟨rfl, rfl⟩ := e1
    refine ⟨fun _ => by rw [h1]; exact hz, fun q => absurd (show prc a (b + 1) a b by unfold prc; omega) q⟩
  · by_cases e2 : a = j ∧ b = i
    · obtain ⟨rfl, rfl⟩ := e2
      refine ⟨fun _ => by rw [h2, tlO_comm]; exact hz, fun q => absurd (show prc b (a + 1) a b by unfold prc; omega) q⟩
    · rw [h3 (a * 5 + b) (by omega) (by omega) (by omega)]
      refine ⟨fun q => (h a b ha hb).1 (by unfold prc at q ⊢; omega), fun q => (h a b ha hb).2 (fun z => q (by unfold prc at z ⊢; omega))⟩
