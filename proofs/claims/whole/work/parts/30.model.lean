/-! ===== the model: its cells, its two marks ===== -/
abbrev shM : List (Nat × Nat) := [(0, 0), (0, 0), (2, 1), (0, 0), (2, 2), (1, 0), (1, 0), (0, 0), (0, 0), (2, 3), (2, 4), (2, 5), (2, 6), (2, 7), (0, 0), (2, 8), (2, 9), (2, 10), (2, 11), (2, 12), (2, 13), (0, 0), (0, 0), (0, 0), (0, 0), (2, 14), (2, 15), (2, 16), (2, 17), (2, 18), (2, 19), (2, 20), (0, 0), (2, 21), (2, 22), (0, 0), (0, 0), (0, 0), (0, 0), (0, 0), (0, 0), (2, 23), (2, 24), (2, 25), (2, 26)]
def isMS (rg : RgT) : Prop := Ob rg 0 7 shM ∧ Ar rg 1 0 300 ∧ Ar rg 2 0 5 ∧ Ar rg 3 1 25 ∧ Ar rg 4 1 25 ∧ Ar rg 5 1 25 ∧ Ar rg 6 1 25 ∧ Ar rg 7 2 5 ∧ Ar rg 8 0 5 ∧ Ar rg 9 1 5 ∧ Ar rg 10 1 5 ∧ Ar rg 11 1 25 ∧ Ar rg 12 1 25 ∧ Ar rg 13 0 5 ∧ Ar rg 14 0 5 ∧ Ar rg 15 0 5 ∧ Ar rg 16 1 10 ∧ Ar rg 17 1 50 ∧ Ar rg 18 2 5 ∧ Ar rg 19 1 5 ∧ Ar rg 20 1 5 ∧ Ar rg 21 1 5 ∧ Ar rg 22 1 5 ∧ Ar rg 23 1 25 ∧ Ar rg 24 1 25 ∧ Ar rg 25 1 25 ∧ Ar rg 26 1 25
def setW (I : II) (w : Bool) : II := up2 I 0 7 (b2i w)
def setU (L : LL) (z : Fr) : LL := up2 (up2 L 0 5 z.1) 0 6 z.2
theorem setW_7 (I : II) (w : Bool) : setW I w 0 7 = b2i w := by unfold setW; rw [up2_at]; simp
theorem setW_k (I : II) (w : Bool) {k : Nat} (h : k ≠ 7) : setW I w 0 k = I 0 k := by unfold setW; rw [up2_at]; simp [h]
theorem setW_q (I : II) (w : Bool) {q : Nat} (h : q ≠ 0) : setW I w q = I q := up2_ne _ h
theorem up2_up2 {α : Type} (f : Nat → Nat → α) (o k : Nat) (v w : α) : up2 (up2 f o k v) o k w = up2 f o k w := by
  funext q j
  rw [up2_at, up2_at, up2_at]
  split
  · split <;> simp_all
  · rfl
theorem up2_comm {α : Type} (f : Nat → Nat → α) {o k j : Nat} (v w : α) (h : k ≠ j) : up2 (up2 f o k v) o j w = up2 (up2 f o j w) o k v := by
  funext q i
  simp only [up2_at]
  by_cases e : q = o
  · by_cases e1 : i = k <;> by_cases e2 : i = j <;> simp_all
  · simp [e]
theorem up2_cm2 {α : Type} (f : Nat → Nat → α) {o o2 k j : Nat} (v w : α) (h : o ≠ o2) : up2 (up2 f o k v) o2 j w = up2 (up2 f o2 j w) o k v := by
  funext q i
  simp only [up2_at]
  by_cases e : q = o
  · subst e; simp [h]
  · by_cases e2 : q = o2
    · subst e2; simp [e]
    · simp [e, e2]
theorem up2_same {α : Type} (f : Nat → Nat → α) {o k : Nat} {v : α} (h : f o k = v) : up2 f o k v = f := by
  funext q j
  rw [up2_at]
  split
  · next e => split
              · next e2 => rw [e, e2, h]
              · rfl
  · rfl
theorem setW_2 (I : II) (w v : Bool) : setW (setW I w) v = setW I v := up2_up2 _ _ _ _ _
theorem setW_s {I : II} {w : Bool} (h : I 0 7 = b2i w) : setW I w = I := up2_same _ h
theorem setU_2 (L : LL) (a b : Fr) : setU (setU L a) b = setU L b := by
  unfold setU
  rw [up2_comm (up2 L 0 5 a.1) a.2 b.1 (by decide), up2_up2, up2_up2]
theorem setU_5 (L : LL) (z : Fr) : setU L z 0 5 = z.1 := by unfold setU; rw [up2_at, up2_at]; simp
theorem setU_6 (L : LL) (z : Fr) : setU L z 0 6 = z.2 := by unfold setU; rw [up2_at]; simp
theorem setU_q (L : LL) (z : Fr) {q : Nat} (h : q ≠ 0) : setU L z q = L q := by unfold setU; rw [up2_ne _ h, up2_ne _ h]
def mop (w : Bool) (x : Option Fr) : Bool × Fr := if w = true then (true, (0, 1)) else match x with
  | some z => (false, z)
  | none => (true, (0, 1))
theorem mop_t (x : Option Fr) : mop true x = (true, (0, 1)) := rfl
theorem mop_s (z : Fr) : mop false (some z) = (false, z) := rfl
theorem mop_n : mop false none = (true, (0, 1)) := rfl
theorem or_1 (w : Bool) : b2i w ||| nI 1 = b2i true := by cases w <;> decide
theorem mulO_comm (x y : Int64) : mulO x y = mulO y x := by unfold mulO; rw [Int.mul_comm, Int64.mul_comm]
theorem mk_ok {x y : Int64} (hy : ¬ y = 0) (h : ¬ x * y = LEA) (hd : x * y / y = x) : mulO x y = some (x * y) := by
  have h1 := mul_chk (a := y) (b := x) hy (by rw [Int64.mul_comm]; exact hd)
  rw [mulO_comm, Int64.mul_comm]
  cases hm : mulO y x with
  | none => rw [hm] at h1; exact absurd (by rw [Int64.mul_comm]; exact h1.symm) h
  | some r => rw [hm] at h1; rw [show r = y * x from h1]
theorem mk_b1 {x y : Int64} (h : x * y = LEA) : mulO x y = none := by
  cases hm : mulO x y with
  | none => rfl
  | some r =>
    have h1 : r = x * y := by unfold mulO at hm; split at hm <;> cases hm; rfl
    exact absurd (h1.trans h) (mulO_ne hm).1
theorem mk_b2 {x y : Int64} (hy : ¬ y = 0) (hd : ¬ x * y / y = x) : mulO x y = none := by
  have h1 := mul_chkN (a := y) (b := x) hy (by rw [Int64.mul_comm]; exact hd)
  rw [mulO_comm]
  cases hm : mulO y x with
  | none => rfl
  | some r => rw [hm] at h1; exact absurd h1 (mulO_ne hm).1
theorem ak_ok {x y : Int64} (h1 : ¬ ((x ^^^ (x + y)) &&& (y ^^^ (x + y))) < 0) (h2 : ¬ x + y = LEA) : addO x y = some (x + y) := by
  rw [add_wr, Classical.not_not] at h1
  unfold addO
  rw [if_pos]
  refine ⟨?_, h1.2⟩
  rcases Int.lt_or_eq_of_le h1.1 with q | q
  · exact q
  · exfalso; apply h2; apply Int64.toInt_inj.mp; rw [LEA_toInt, Int64.toInt_add, ← q]; decide
theorem ak_b1 {x y : Int64} (h1 : ((x ^^^ (x + y)) &&& (y ^^^ (x + y))) < 0) : addO x y = none := by
  unfold addO
  rw [if_neg (fun q => (add_wr x y).mp h1 ⟨by omega, by omega⟩)]
theorem ak_b2 {x y : Int64} (h : x + y = LEA) : addO x y = none := by
  unfold addO
  rw [if_neg]
  intro q
  have := add_in q
  rw [h, LEA_toInt] at this
  omega
theorem sub_add {x y : Int64} (h : y ≠ LEA) : addO x (-y) = subO x y := by
  unfold addO subO
  rw [neg_in h, ← Int.sub_eq_add_neg, Int64.sub_eq_add_neg]
theorem bwd {w w1 : Bool} (h : w = true → w1 = true) : w1 = false → w = false := fun q => by
  cases w with
  | false => rfl
  | true => rw [h rfl] at q; cases q
/-- one step that may be too long: the mark before and behind it, its number -/
def St1 (w w1 : Bool) (x : Option Int64) (r : Int64) : Prop := (w = true → w1 = true) ∧ (w = false → (x = some r ∧ w1 = false) ∨ (x = none ∧ w1 = true))
theorem St1.add {w w1 w2 w3 : Bool} {x y : Option Int64} {a b c : Int64} (h1 : St1 w w1 x a) (h2 : St1 w1 w2 y b) (h3 : St1 w2 w3 (addO a b) c) : St1 w w3 (addOO x y) c := by
  refine ⟨fun q => h3.1 (h2.1 (h1.1 q)), fun q => ?_⟩
  rcases h1.2 q with ⟨e1, q1⟩ | ⟨e1, q1⟩
  · rcases h2.2 q1 with ⟨e2, q2⟩ | ⟨e2, q2⟩
    · rw [e1, e2]; exact h3.2 q2
    · right; rw [e1, e2]; exact ⟨rfl, h3.1 q2⟩
  · right; rw [e1]; exact ⟨rfl, h3.1 (h2.1 q1)⟩
theorem St1.sub {w w1 w2 w3 : Bool} {x y : Option Int64} {a b c : Int64} (h1 : St1 w w1 x a) (h2 : St1 w1 w2 y b) (hb : w2 = false → b ≠ LEA) (h3 : St1 w2 w3 (addO a (-b)) c) : St1 w w3 (subOO x y) c := by
  refine ⟨fun q => h3.1 (h2.1 (h1.1 q)), fun q => ?_⟩
  rcases h1.2 q with ⟨e1, q1⟩ | ⟨e1, q1⟩
  · rcases h2.2 q1 with ⟨e2, q2⟩ | ⟨e2, q2⟩
    · rw [e1, e2]; have := h3.2 q2; rw [sub_add (hb q2)] at this; exact this
    · right; rw [e1, e2]; exact ⟨rfl, h3.1 q2⟩
  · right; rw [e1]; exact ⟨rfl, h3.1 (h2.1 q1)⟩
theorem St1.fin {w w1 w2 : Bool} {x y : Option Int64} {a b : Int64} (h1 : St1 w w1 x a) (h2 : St1 w1 w2 y b) (h0 : w2 = false → ¬ b = 0) : (w2, if w2 = true then ((0, 1) : Fr) else red a b) = mop w (fPut x y) := by
  cases w with
  | true => rw [h2.1 (h1.1 rfl)]; rfl
  | false =>
    rcases h1.2 rfl with ⟨e1, q1⟩ | ⟨e1, q1⟩
    · rcases h2.2 q1 with ⟨e2, q2⟩ | ⟨e2, q2⟩
      · rw [e1, e2, fPut_of (h0 q2), q2]; rfl
      · rw [e1, e2, q2]; rfl
    · rw [e1, h2.1 q1]; rfl
theorem St1.ne {w w1 : Bool} {x : Option Int64} {r : Int64} (h : St1 w w1 x r) (hx : ∀ u, x = some u → u ≠ LEA) : w1 = false → r ≠ LEA := fun q => by
  rcases h.2 (bwd h.1 q) with ⟨e1, q1⟩ | ⟨e1, q1⟩
  · exact hx r e1
  · rw [q] at q1; cases q1
theorem St1.so {w w1 : Bool} {x : Option Int64} {r : Int64} (h : St1 w w1 x r) : w1 = false → x = some r := fun q => by
  rcases h.2 (bwd h.1 q) with ⟨e1, q1⟩ | ⟨e1, q1⟩
  · exact e1
  · rw [q] at q1; cases q1
theorem mul_n0 {b d v : Int64} (hb : b.toInt ≠ 0) (hd : d.toInt ≠ 0) (h : mulO b d = some v) : ¬ v = 0 := fun q => by
  have := (mulO_ne h).2
  rw [q, i64_0] at this
  rcases Int.mul_eq_zero.mp this.symm with e | e
  · exact hb e
  · exact hd e
theorem WF.i2 {x : Fr} (h : WF x) : x.2.toInt ≠ 0 := by have := h.2.1; omega
/-- the greatest common divisor by the model's loop, and what it makes of it -/
theorem red_m1 {u v : Int64} (hu : u ≠ LEA) (hv : v ≠ LEA) (h : ¬ 0 ≤ v) : red u v = ((-u) / lN (gcdN u v), (-v) / lN (gcdN u v)) := by
  have hg := gcdN_lt hu hv
  have key : ∀ x : Int64, x ≠ LEA → x / -lN (gcdN u v) = (-x) / lN (gcdN u v) := fun x hx => by
    apply Int64.toInt_inj.mp
    have h1 := neg_in hx
    have h2 := ne_LEA.mp hx
    have h3 := i64_hi x
    rw [div_ng hx hg, div_g (by rw [ne_LEA, h1]; omega) hg, h1, Int.neg_tdiv]
  rw [red_n h, key u hu, key v hv]
