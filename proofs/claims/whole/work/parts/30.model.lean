/-! ===== the model: its cells, its two marks ===== -/
abbrev shM : List (Nat × Nat) := [(0, 0), (0, 0), (2, 1), (0, 0), (2, 2), (1, 0), (1, 0), (0, 0), (0, 0), (2, 3), (2, 4), (2, 5), (2, 6), (2, 7), (0, 0), (2, 8), (2, 9), (2, 10), (2, 11), (2, 12), (2, 13), (0, 0), (0, 0), (0, 0), (0, 0), (2, 14), (2, 15), (2, 16), (2, 17), (2, 18), (2, 19), (2, 20), (0, 0), (2, 21), (2, 22), (0, 0), (0, 0), (0, 0), (0, 0), (0, 0), (0, 0), (2, 23), (2, 24), (2, 25), (2, 26)]
def isMS (rg : RgT) : Prop := Ob rg 0 7 shM ∧ Ar rg 1 0 300 ∧ Ar rg 2 0 5 ∧ Ar rg 3 1 25 ∧ Ar rg 4 1 25 ∧ Ar rg 5 1 25 ∧ Ar rg 6 1 25 ∧ Ar rg 7 2 5 ∧ Ar rg 8 0 5 ∧ Ar rg 9 1 5 ∧ Ar rg 10 1 5 ∧ Ar rg 11 1 25 ∧ Ar rg 12 1 25 ∧ Ar rg 13 0 5 ∧ Ar rg 14 0 5 ∧ Ar rg 15 0 5 ∧ Ar rg 16 1 10 ∧ Ar rg 17 1 50 ∧ Ar rg 18 2 5 ∧ Ar rg 19 1 5 ∧ Ar rg 20 1 5 ∧ Ar rg 21 1 5 ∧ Ar rg 22 1 5 ∧ Ar rg 23 1 25 ∧ Ar rg 24 1 25 ∧ Ar rg 25 1 25 ∧ Ar rg 26 1 25
def setW (I : II) (w : Bool) : II := up2 I 0 7 (b2i w)
def setU (L : LL) (z : Fr) : LL := up2 (up2 L 0 5 z.1) 0 6 z.2
theorem setW_7 (I : II) (w : Bool) : setW I w 0 7 = b2i w := by unfold setW; rw [up2_at]; simp
theorem setW_k (I : II) (w : Bool) {k : Nat} (h : k ≠ 7) : setW I w 0 k = I 0 k := by unfold setW; rw [up2_at]; simp [h]
theorem setW_q (I : II) (w : Bool) {q : Nat} (h : q ≠ 0) : setW I w q = I q := up2_ne _ h
theorem up2_up2 {α : Type} (f : Nat → Nat → α) (o k : Nat) (v w : α) : up2 (up2 f o k v) o k w = up2 f o k w := by
  funext q j
  rw [up2_at, up2_at, up2_at]
  split
  · split <;> simp_all
  · rfl
theorem up2_comm {α : Type} (f : Nat → Nat → α) {o k j : Nat} (v w : α) (h : k ≠ j) : up2 (up2 f o k v) o j w = up2 (up2 f o j w) o k v := by
  funext q i
  simp only [up2_at]
  by_cases e : q = o
  · by_cases e1 : i = k <;> by_cases e2 : i = j <;> simp_all
  · simp [e]
theorem up2_cm2 {α : Type} (f : Nat → Nat → α) {o o2 k j : Nat} (v w : α) (h : o ≠ o2) : up2 (up2 f o k v) o2 j w = up2 (up2 f o2 j w) o k v := by
  funext q i
  simp only [up2_at]
  by_cases e : q = o
  · subst e; simp [h]
  · by_cases e2 : q = o2
    · subst e2; simp [e]
    · simp [e, e2]
theorem up2_same {α : Type} (f : Nat → Nat → α) {o k : Nat} {v : α} (h : f o k = v) : up2 f o k v = f := by
  funext q j
  rw [up2_at]
  split
  · next e => split
              · next e2 => rw [e, e2, h]
              · rfl
  · rfl
theorem setW_2 (I : II) (w v : Bool) : setW (setW I w) v = setW I v := up2_up2 _ _ _ _ _
theorem setW_s {I : II} {w : Bool} (h : I 0 7 = b2i w) : setW I w = I := up2_same _ h
theorem setU_2 (L : LL) (a b : Fr) : setU (setU L a) b = setU L b := by
  unfold setU
  rw [up2_comm (up2 L 0 5 a.1) a.2 b.1 (by decide), up2_up2, up2_up2]
theorem setU_5 (L : LL) (z : Fr) : setU L z 0 5 = z.1 := by unfold setU; rw [up2_at, up2_at]; simp
theorem setU_6 (L : LL) (z : Fr) : setU L z 0 6 = z.2 := by unfold setU; rw [up2_at]; simp
theorem setU_q (L : LL) (z : Fr) {q : Nat} (h : q ≠ 0) : setU L z q = L q := by unfold setU; rw [up2_ne _ h, up2_ne _ h]
def mop (w : Bool) (x : Option Fr) : Bool × Fr := if w = true then (true, (0, 1)) else match x with
  | some z => (false, z)
  | none => (true, (0, 1))
theorem mop_t (x : Option Fr) : mop true x = (true, (0, 1)) := rfl
theorem mop_s (z : Fr) : mop false (some z) = (false, z) := rfl
theorem mop_n : mop false none = (true, (0, 1)) := rfl
theorem or_1 (w : Bool) : b2i w ||| nI 1 = b2i true := by cases w <;> decide
theorem mulO_comm (x y : Int64) : mulO x y = mulO y x := by unfold mulO; rw [Int.mul_comm, Int64.mul_comm]
theorem mk_ok {x y : Int64} (hy : ¬ y = 0) (h : ¬ x * y = LEA) (hd : x * y / y = x) : mulO x y = some (x * y) := by
  have h1 := mul_chk (a := y) (b := x) hy (by rw [Int64.mul_comm]; exact hd)
  rw [mulO_comm, Int64.mul_comm]
  cases hm : mulO y x with
  | none => rw [hm] at h1; exact absurd (by rw [Int64.mul_comm]; exact h1.symm) h
  | some r => rw [hm] at h1; rw [show r = y * x from h1]
theorem mk_b1 {x y : Int64} (h : x * y = LEA) : mulO x y = none := by
  cases hm : mulO x y with
  | none => rfl
  | some r =>
    have h1 : r = x * y := by unfold mulO at hm; split at hm <;> cases hm; rfl
    exact absurd (h1.trans h) (mulO_ne hm).1
theorem mk_b2 {x y : Int64} (hy : ¬ y = 0) (hd : ¬ x * y / y = x) : mulO x y = none := by
  have h1 := mul_chkN (a := y) (b := x) hy (by rw [Int64.mul_comm]; exact hd)
  rw [mulO_comm]
  cases hm : mulO y x with
  | none => rfl
  | some r => rw [hm] at h1; exact absurd h1 (mulO_ne hm).1
theorem ak_ok {x y : Int64} (h1 : ¬ ((x ^^^ (x + y)) &&& (y ^^^ (x + y))) < 0) (h2 : ¬ x + y = LEA) : addO x y = some (x + y) := by
  rw [add_wr, Classical.not_not] at h1
  unfold addO
  rw [if_pos]
  refine ⟨?_, h1.2⟩
  rcases Int.lt_or_eq_of_le h1.1 with q | q
  · exact q
  · exfalso; apply h2; apply Int64.toInt_inj.mp; rw [LEA_toInt, Int64.toInt_add, ← q]; decide
theorem ak_b1 {x y : Int64} (h1 : ((x ^^^ (x + y)) &&& (y ^^^ (x + y))) < 0) : addO x y = none := by
  unfold addO
  rw [if_neg (fun q => (add_wr x y).mp h1 ⟨by omega, by omega⟩)]
theorem ak_b2 {x y : Int64} (h : x + y = LEA) : addO x y = none := by
  unfold addO
  rw [if_neg]
  intro q
  have := add_in q
  rw [h, LEA_toInt] at this
  omega
theorem sub_add {x y : Int64} (h : y ≠ LEA) : addO x (-y) = subO x y := by
  unfold addO subO
  rw [neg_in h, ← Int.sub_eq_add_neg, Int64.sub_eq_add_neg]
theorem bwd {w w1 : Bool} (h : w = true → w1 = true) : w1 = false → w = false := fun q => by
  cases w with
  | false => rfl
  | true => rw [h rfl] at q; cases q
/-- one step that may be too long: the mark before and behind it, its number -/
def St1 (w w1 : Bool) (x : Option Int64) (r : Int64) : Prop := (w = true → w1 = true) ∧ (w = false → (x = some r ∧ w1 = false) ∨ (x = none ∧ w1 = true))
theorem St1.add {w w1 w2 w3 : Bool} {x y : Option Int64} {a b c : Int64} (h1 : St1 w w1 x a) (h2 : St1 w1 w2 y b) (h3 : St1 w2 w3 (addO a b) c) : St1 w w3 (addOO x y) c := by
  refine ⟨fun q => h3.1 (h2.1 (h1.1 q)), fun q => ?_⟩
  rcases h1.2 q with ⟨e1, q1⟩ | ⟨e1, q1⟩
  · rcases h2.2 q1 with ⟨e2, q2⟩ | ⟨e2, q2⟩
    · rw [e1, e2]; exact h3.2 q2
    · right; rw [e1, e2]; exact ⟨rfl, h3.1 q2⟩
  · right; rw [e1]; exact ⟨rfl, h3.1 (h2.1 q1)⟩
theorem St1.sub {w w1 w2 w3 : Bool} {x y : Option Int64} {a b c : Int64} (h1 : St1 w w1 x a) (h2 : St1 w1 w2 y b) (hb : w2 = false → b ≠ LEA) (h3 : St1 w2 w3 (addO a (-b)) c) : St1 w w3 (subOO x y) c := by
  refine ⟨fun q => h3.1 (h2.1 (h1.1 q)), fun q => ?_⟩
  rcases h1.2 q with ⟨e1, q1⟩ | ⟨e1, q1⟩
  · rcases h2.2 q1 with ⟨e2, q2⟩ | ⟨e2, q2⟩
    · rw [e1, e2]; have := h3.2 q2; rw [sub_add (hb q2)] at this; exact this
    · right; rw [e1, e2]; exact ⟨rfl, h3.1 q2⟩
  · right; rw [e1]; exact ⟨rfl, h3.1 (h2.1 q1)⟩
theorem St1.fin {w w1 w2 : Bool} {x y : Option Int64} {a b : Int64} (h1 : St1 w w1 x a) (h2 : St1 w1 w2 y b) (h0 : w2 = false → ¬ b = 0) : (w2, if w2 = true then ((0, 1) : Fr) else red a b) = mop w (fPut x y) := by
  cases w with
  | true => rw [h2.1 (h1.1 rfl)]; rfl
  | false =>
    rcases h1.2 rfl with ⟨e1, q1⟩ | ⟨e1, q1⟩
    · rcases h2.2 q1 with ⟨e2, q2⟩ | ⟨e2, q2⟩
      · rw [e1, e2, fPut_of (h0 q2), q2]; rfl
      · rw [e1, e2, q2]; rfl
    · rw [e1, h2.1 q1]; rfl
theorem St1.ne {w w1 : Bool} {x : Option Int64} {r : Int64} (h : St1 w w1 x r) (hx : ∀ u, x = some u → u ≠ LEA) : w1 = false → r ≠ LEA := fun q => by
  rcases h.2 (bwd h.1 q) with ⟨e1, q1⟩ | ⟨e1, q1⟩
  · exact hx r e1
  · rw [q] at q1; cases q1
theorem St1.so {w w1 : Bool} {x : Option Int64} {r : Int64} (h : St1 w w1 x r) : w1 = false → x = some r := fun q => by
  rcases h.2 (bwd h.1 q) with ⟨e1, q1⟩ | ⟨e1, q1⟩
  · exact e1
  · rw [q] at q1; cases q1
theorem mul_n0 {b d v : Int64} (hb : b.toInt ≠ 0) (hd : d.toInt ≠ 0) (h : mulO b d = some v) : ¬ v = 0 := fun q => by
  have := (mulO_ne h).2
  rw [q, i64_0] at this
  rcases Int.mul_eq_zero.mp this.symm with e | e
  · exact hb e
  · exact hd e
theorem WF.i2 {x : Fr} (h : WF x) : x.2.toInt ≠ 0 := by have := h.2.1; omega
/-- the greatest common divisor by the model's loop, and what it makes of it -/
theorem red_m1 {u v : Int64} (hu : u ≠ LEA) (hv : v ≠ LEA) (h : ¬ 0 ≤ v) : red u v = ((-u) / lN (gcdN u v), (-v) / lN (gcdN u v)) := by
  have hg := gcdN_lt hu hv
  have key : ∀ x : Int64, x ≠ LEA → x / -lN (gcdN u v) = (-x) / lN (gcdN u v) := fun x hx => by
    apply Int64.toInt_inj.mp
    have h1 := neg_in hx
    have h2 := ne_LEA.mp hx
    have h3 := i64_hi x
    rw [div_ng hx hg, div_g (by rw [ne_LEA, h1]; omega) hg, h1, Int.neg_tdiv]
  rw [red_n h, key u hu, key v hv]

theorem lw_fp {L : LL} {u v : Int64} {x : Nat} (hx : x = gcdN u v) (h : 0 ≤ v) : setU L (red u v) = up2 (up2 (up2 (up2 L 0 5 0) 0 6 1) 0 5 (u / lN x)) 0 6 (v / lN x) := by
  rw [red_p h, ← hx]; exact (setU_2 L (0, 1) (u / lN x, v / lN x)).symm
theorem lw_fn {L : LL} {u v : Int64} {x : Nat} (hu : u ≠ LEA) (hv : v ≠ LEA) (hx : x = gcdN u v) (h : ¬ 0 ≤ v) : setU L (red u v) = up2 (up2 (up2 (up2 L 0 5 0) 0 6 1) 0 5 ((-u) / lN x)) 0 6 ((-v) / lN x) := by
  rw [red_m1 hu hv h, ← hx]; exact (setU_2 L (0, 1) ((-u) / lN x, (-v) / lN x)).symm
theorem or_0 (w : Bool) : b2i w ||| nI 0 = b2i w := by cases w <;> decide
theorem i64_e0 {z : Int64} (h : z.toInt = 0) : z = 0 := Int64.toInt_inj.mp (h.trans i64_0.symm)

set_option maxHeartbeats 4000000 in
set_option maxRecDepth 20000 in
theorem c_X7_isIn (l : Launch) (G : GT) (rg : RgT) (I : II) (L : LL) (x y z : Int64)  : CtI l yX7_isIn cX7_isIn 7 (some FieldType.boolean) 1 G rg I L [.ref (gB G + 0), .long x, .long y, .long z] (fun r I1 L1 => r = b2i (decide (y ≤ x ∧ x ≤ z)) ∧ I = I1 ∧ L = L1) := by
  refine ctI_of [some (.ref (gB G + 0)), some (.long x), none, some (.long y), none, some (.long z), none] rfl (Nat.le_of_ble_eq_true rfl) (by decide) ?_
  intro p e s m args below meth c C hr
  refine j_lload_n C dX7_isIn_0 rfl rfl ?_
  refine j_lload_n C dX7_isIn_1 rfl rfl ?_
  refine j_lc_lt (tgt := 17) C dX7_isIn_2 dX7_isIn_3 (by decide) (fun h_3 => ?_) (fun h_3 => ?_)
  · refine j_iconst (v := nI 0) C dX7_isIn_17 (by decide) ?_
    exact j_zret C hr (by first | rfl | exact b2i_n _ rfl) dX7_isIn_18 (by refine ⟨?_, rfl, rfl⟩; first | (rw [decide_eq_true ⟨Int64.not_lt.mp h_3, Int64.not_lt.mp h_10⟩]; rfl) | (rw [decide_eq_false (fun q => h_10 q.2)]; rfl) | (rw [decide_eq_false (fun q => absurd q.1 (Int64.not_le.mpr h_3))]; rfl) | (rw [decide_eq_false (fun q => absurd q.2 (Int64.not_le.mpr h_10))]; rfl) | (rw [decide_eq_true ⟨Int64.not_lt.mp h_3, h_10⟩]; rfl))
  · refine j_lload_n C dX7_isIn_6 rfl rfl ?_
    refine j_lload C dX7_isIn_7 rfl ?_
    refine j_lc_gt (tgt := 17) C dX7_isIn_9 dX7_isIn_10 (by decide) (fun h_10 => ?_) (fun h_10 => ?_)
    · refine j_iconst (v := nI 0) C dX7_isIn_17 (by decide) ?_
      exact j_zret C hr (by first | rfl | exact b2i_n _ rfl) dX7_isIn_18 (by refine ⟨?_, rfl, rfl⟩; first | (rw [decide_eq_true ⟨Int64.not_lt.mp h_3, Int64.not_lt.mp h_10⟩]; rfl) | (rw [decide_eq_false (fun q => h_10 q.2)]; rfl) | (rw [decide_eq_false (fun q => absurd q.1 (Int64.not_le.mpr h_3))]; rfl) | (rw [decide_eq_false (fun q => absurd q.2 (Int64.not_le.mpr h_10))]; rfl) | (rw [decide_eq_true ⟨Int64.not_lt.mp h_3, h_10⟩]; rfl))
    · refine j_iconst (v := nI 1) C dX7_isIn_13 (by decide) ?_
      refine j_goto (tgt := 18) C dX7_isIn_14 (by decide) ?_
      exact j_zret C hr (by first | rfl | exact b2i_n _ rfl) dX7_isIn_18 (by refine ⟨?_, rfl, rfl⟩; first | (rw [decide_eq_true ⟨Int64.not_lt.mp h_3, Int64.not_lt.mp h_10⟩]; rfl) | (rw [decide_eq_false (fun q => h_10 q.2)]; rfl) | (rw [decide_eq_false (fun q => absurd q.1 (Int64.not_le.mpr h_3))]; rfl) | (rw [decide_eq_false (fun q => absurd q.2 (Int64.not_le.mpr h_10))]; rfl) | (rw [decide_eq_true ⟨Int64.not_lt.mp h_3, h_10⟩]; rfl))

set_option maxHeartbeats 4000000 in
set_option maxRecDepth 20000 in
theorem c_X7_at (l : Launch) (G : GT) (rg : RgT) (I : II) (L : LL) (i j : Nat) (hi : i < 5) (hj : j < 5) : CtI l yX7_at cX7_at 3 (some FieldType.int) 1 G rg I L [.ref (gB G + 0), .int (nI i), .int (nI j)] (fun r I1 L1 => r = nI (ix i j) ∧ I = I1 ∧ L = L1) := by
  refine ctI_of [some (.ref (gB G + 0)), some (.int (nI i)), some (.int (nI j))] rfl (Nat.le_of_ble_eq_true rfl) (by decide) ?_
  intro p e s m args below meth c C hr
  refine j_iload_n C dX7_at_0 rfl rfl ?_
  refine j_iload_n C dX7_at_1 rfl rfl ?_
  first | refine n_icmp_ge (tgt := 13) C (by omega) (by omega) dX7_at_2 (by decide) (fun h_2 => ?_) (fun h_2 => ?_) | refine j_icmp_ge (tgt := 13) C dX7_at_2 (by decide) (fun h_2 => ?_) (fun h_2 => ?_)
  · refine j_iconst (v := nI 5) C dX7_at_13 (by decide) ?_
    refine j_iload_n C dX7_at_14 rfl rfl ?_
    first | refine n_imul C dX7_at_15 ?_ | refine j_imul C dX7_at_15 ?_
    refine j_iload_n C dX7_at_16 rfl rfl ?_
    first | refine n_iadd C dX7_at_17 ?_ | refine j_iadd C dX7_at_17 ?_
    exact j_iret C hr dX7_at_18 (⟨congrArg nI (by unfold ix; omega), rfl, rfl⟩)
  · refine j_iconst (v := nI 5) C dX7_at_5 (by decide) ?_
    refine j_iload_n C dX7_at_6 rfl rfl ?_
    first | refine n_imul C dX7_at_7 ?_ | refine j_imul C dX7_at_7 ?_
    refine j_iload_n C dX7_at_8 rfl rfl ?_
    first | refine n_iadd C dX7_at_9 ?_ | refine j_iadd C dX7_at_9 ?_
    refine j_goto (tgt := 18) C dX7_at_10 (by decide) ?_
    exact j_iret C hr dX7_at_18 (⟨congrArg nI (by unfold ix; omega), rfl, rfl⟩)

set_option maxHeartbeats 4000000 in
set_option maxRecDepth 20000 in
theorem c_X7_inOrder (l : Launch) (G : GT) (rg : RgT) (I : II) (L : LL) (n k : Nat) (hms : isMS rg) (hn : I 0 0 = nI n) (hn4 : n < 5) (hk : k < 2 ^ 20) : CtI l yX7_inOrder cX7_inOrder 2 (some FieldType.int) 1 G rg I L [.ref (gB G + 0), .int (nI k)] (fun r I1 L1 => r = nI (ordn n k) ∧ I = I1 ∧ L = L1) := by
  refine ctI_of [some (.ref (gB G + 0)), some (.int (nI k))] rfl (Nat.le_of_ble_eq_true rfl) (by decide) ?_
  intro p e s m args below meth c C hr
  obtain ⟨o0, a1, a2, a3, a4, a5, a6, a7, a8, a9, a10, a11, a12, a13, a14, a15, a16, a17, a18, a19, a20, a21, a22, a23, a24, a25, a26⟩ := id hms
  refine j_iload_n C dX7_inOrder_0 rfl rfl ?_
  refine j_aload_n C dX7_inOrder_1 rfl rfl ?_
  refine g_getI C (o0) fl_X7_7 (by rfl) dX7_inOrder_2 ?_
  refine t_i hn ?_
  first | refine n_icmp_ge (tgt := 14) C (by omega) (by omega) dX7_inOrder_5 (by decide) (fun h_5 => ?_) (fun h_5 => ?_) | refine j_icmp_ge (tgt := 14) C dX7_inOrder_5 (by decide) (fun h_5 => ?_) (fun h_5 => ?_)
  · refine j_iconst (v := nI 0) C dX7_inOrder_14 (by decide) ?_
    exact j_iret C hr dX7_inOrder_15 (by refine ⟨?_, rfl, rfl⟩; unfold ordn; first | (rw [if_pos (by omega)]; done) | (rw [if_neg (by omega)]; done))
  · refine j_iload_n C dX7_inOrder_8 rfl rfl ?_
    refine j_iconst (v := nI 1) C dX7_inOrder_9 (by decide) ?_
    first | refine n_iadd C dX7_inOrder_10 ?_ | refine j_iadd C dX7_inOrder_10 ?_
    refine j_goto (tgt := 15) C dX7_inOrder_11 (by decide) ?_
    exact j_iret C hr dX7_inOrder_15 (by refine ⟨?_, rfl, rfl⟩; unfold ordn; first | (rw [if_pos (by omega)]; done) | (rw [if_neg (by omega)]; done))

set_option maxHeartbeats 4000000 in
set_option maxRecDepth 20000 in
theorem c_X7_begin (l : Launch) (G : GT) (rg : RgT) (I : II) (L : LL) (hms : isMS rg) : CtV l yX7_begin cX7_begin 1 none 1 G rg I L [.ref (gB G + 0)] (fun I1 L1 => up2 (setW I false) 0 8 (b2i false) = I1 ∧ L = L1) := by
  refine ctV_of [some (.ref (gB G + 0))] rfl (Nat.le_of_ble_eq_true rfl) (by decide) ?_
  intro p e s m args below meth c C hr
  obtain ⟨o0, a1, a2, a3, a4, a5, a6, a7, a8, a9, a10, a11, a12, a13, a14, a15, a16, a17, a18, a19, a20, a21, a22, a23, a24, a25, a26⟩ := id hms
  refine j_aload_n C dX7_begin_0 rfl rfl ?_
  refine j_iconst (v := nI 0) C dX7_begin_1 (by decide) ?_
  refine g_putI C (o0) fw_X7_139 (by rfl) rfl (rfl) dX7_begin_2 ?_
  refine j_aload_n C dX7_begin_5 rfl rfl ?_
  refine j_iconst (v := nI 0) C dX7_begin_6 (by decide) ?_
  refine g_putI C (o0) fw_X7_142 (by rfl) rfl (rfl) dX7_begin_7 ?_
  exact j_vret C hr dX7_begin_10 (⟨rfl, rfl⟩)

set_option maxHeartbeats 4000000 in
set_option maxRecDepth 20000 in
theorem c_X7_isWrong (l : Launch) (G : GT) (rg : RgT) (I : II) (L : LL) (w : Bool) (hms : isMS rg) (hw : I 0 7 = b2i w) (h8 : I 0 8 = b2i false) : CtI l yX7_isWrong cX7_isWrong 1 (some FieldType.boolean) 1 G rg I L [.ref (gB G + 0)] (fun r I1 L1 => r = b2i w ∧ I = I1 ∧ L = L1) := by
  refine ctI_of [some (.ref (gB G + 0))] rfl (Nat.le_of_ble_eq_true rfl) (by decide) ?_
  intro p e s m args below meth c C hr
  obtain ⟨o0, a1, a2, a3, a4, a5, a6, a7, a8, a9, a10, a11, a12, a13, a14, a15, a16, a17, a18, a19, a20, a21, a22, a23, a24, a25, a26⟩ := id hms
  refine j_aload_n C dX7_isWrong_0 rfl rfl ?_
  refine g_getI C (o0) fl_X7_139 (by rfl) dX7_isWrong_1 ?_
  refine t_i hw ?_
  first | refine n_if_ne (tgt := 14) C dX7_isWrong_4 (by decide) (fun h_4 => ?_) (fun h_4 => ?_) | refine j_if_ne (tgt := 14) C dX7_isWrong_4 (by decide) (fun h_4 => ?_) (fun h_4 => ?_)
  · refine j_iconst (v := nI 1) C dX7_isWrong_14 (by decide) ?_
    refine j_goto (tgt := 19) C dX7_isWrong_15 (by decide) ?_
    exact j_zret C hr (by first | rfl | exact b2i_n _ rfl) dX7_isWrong_19 (by cases w <;> first | exact ⟨rfl, rfl, rfl⟩ | (exfalso; revert h_4; decide) | (exfalso; revert h_11; decide))
  · refine j_aload_n C dX7_isWrong_7 rfl rfl ?_
    refine g_getI C (o0) fl_X7_142 (by rfl) dX7_isWrong_8 ?_
    refine t_i h8 ?_
    first | refine n_if_eq (tgt := 18) C dX7_isWrong_11 (by decide) (fun h_11 => ?_) (fun h_11 => ?_) | refine j_if_eq (tgt := 18) C dX7_isWrong_11 (by decide) (fun h_11 => ?_) (fun h_11 => ?_)
    · refine j_iconst (v := nI 0) C dX7_isWrong_18 (by decide) ?_
      exact j_zret C hr (by first | rfl | exact b2i_n _ rfl) dX7_isWrong_19 (by cases w <;> first | exact ⟨rfl, rfl, rfl⟩ | (exfalso; revert h_4; decide) | (exfalso; revert h_11; decide))
    · refine j_iconst (v := nI 1) C dX7_isWrong_14 (by decide) ?_
      refine j_goto (tgt := 19) C dX7_isWrong_15 (by decide) ?_
      exact j_zret C hr (by first | rfl | exact b2i_n _ rfl) dX7_isWrong_19 (by cases w <;> first | exact ⟨rfl, rfl, rfl⟩ | (exfalso; revert h_4; decide) | (exfalso; revert h_11; decide))

set_option maxHeartbeats 4000000 in
set_option maxRecDepth 20000 in
theorem c_X7_times (l : Launch) (G : GT) (rg : RgT) (I : II) (L : LL) (w : Bool) (x y : Int64) (hms : isMS rg) (hw : I 0 7 = b2i w) (h8 : I 0 8 = b2i false) (hx : w = false → x ≠ LEA) (hy : w = false → y ≠ LEA) : CtL l yX7_times cX7_times 8 (some FieldType.long) 1 G rg I L [.ref (gB G + 0), .long x, .long y] (fun r I1 L1 => L = L1 ∧ ∃ w1, setW I w1 = I1 ∧ St1 w w1 (mulO x y) r) := by
  refine ctL_of [some (.ref (gB G + 0)), some (.long x), none, some (.long y), none, none, none, none] rfl (Nat.le_of_ble_eq_true rfl) (by decide) ?_
  intro p e s m args below meth c C hr
  obtain ⟨o0, a1, a2, a3, a4, a5, a6, a7, a8, a9, a10, a11, a12, a13, a14, a15, a16, a17, a18, a19, a20, a21, a22, a23, a24, a25, a26⟩ := id hms
  refine j_lload_n C dX7_times_0 rfl rfl ?_
  refine j_lconst (v := 0) C dX7_times_1 (by decide) ?_
  refine j_lc_eq (tgt := 12) C dX7_times_2 dX7_times_3 (by decide) (fun h_3 => ?_) (fun h_3 => ?_)
  · refine j_lconst (v := 0) C dX7_times_12 (by decide) ?_
    exact j_lret C hr dX7_times_13 (⟨rfl, w, setW_s hw, fun q => q, fun q => Or.inl ⟨by first | (rw [h_3]; exact mulO_0 y) | (rw [h_9]; exact mulO_0r x), q⟩⟩)
  · refine j_lload_n C dX7_times_6 rfl rfl ?_
    refine j_lconst (v := 0) C dX7_times_7 (by decide) ?_
    refine j_lc_ne (tgt := 14) C dX7_times_8 dX7_times_9 (by decide) (fun h_9 => ?_) (fun h_9 => ?_)
    · refine j_lload_n C dX7_times_14 rfl rfl ?_
      refine j_lload_n C dX7_times_15 rfl rfl ?_
      refine j_lmul C dX7_times_16 ?_
      refine j_lstore C dX7_times_17 (by decide) ?_
      refine j_lload_n C dX7_times_19 rfl rfl ?_
      refine j_ldc2 C kc_X7_137 dX7_times_20 ?_
      refine j_lc_ne (tgt := 35) C dX7_times_23 dX7_times_24 (by decide) (fun h_24 => ?_) (fun h_24 => ?_)
      · refine j_lload_n C dX7_times_35 rfl rfl ?_
        refine j_ldc2 C kc_X7_137 dX7_times_36 ?_
        refine j_lc_ne (tgt := 55) C dX7_times_39 dX7_times_40 (by decide) (fun h_40 => ?_) (fun h_40 => ?_)
        · refine j_iconst (v := nI 0) C dX7_times_55 (by decide) ?_
          refine j_istore C dX7_times_56 (by decide) ?_
          refine j_iload C dX7_times_58 rfl ?_
          refine j_if_ne (tgt := 81) C dX7_times_60 (by decide) (fun h_60 => ?_) (fun h_60 => ?_)
          · exact absurd rfl h_60
          · refine j_lload C dX7_times_63 rfl ?_
            refine j_ldc2 C kc_X7_145 dX7_times_65 ?_
            refine j_lc_eq (tgt := 81) C dX7_times_68 dX7_times_69 (by decide) (fun h_69 => ?_) (fun h_69 => ?_)
            · refine j_aload_n C dX7_times_81 rfl rfl ?_
              refine j_dup C dX7_times_82 rfl ?_
              refine g_getI C (o0) fl_X7_139 (by rfl) dX7_times_83 ?_
              refine t_i hw ?_
              refine j_aload_n C dX7_times_86 rfl rfl ?_
              refine g_getI C (o0) fl_X7_142 (by rfl) dX7_times_87 ?_
              refine t_i h8 ?_
              first | refine n_if_ne (tgt := 97) C dX7_times_90 (by decide) (fun h_90 => ?_) (fun h_90 => ?_) | refine j_if_ne (tgt := 97) C dX7_times_90 (by decide) (fun h_90 => ?_) (fun h_90 => ?_)
              · exact absurd h_90 (by decide)
              · refine j_iconst (v := nI 1) C dX7_times_93 (by decide) ?_
                refine j_goto (tgt := 98) C dX7_times_94 (by decide) ?_
                refine j_ior C dX7_times_98 ?_
                refine t_i (or_1 w) ?_
                refine g_putI C (o0) fw_X7_139 (by rfl) (b2i_n _ rfl) (b2i_f _ rfl) dX7_times_99 ?_
                refine j_lconst (v := 1) C dX7_times_102 (by decide) ?_
                exact j_lret C hr dX7_times_103 (⟨rfl, true, rfl, fun _ => rfl, fun q => Or.inr ⟨by first | exact mk_b1 h_69 | exact mk_b2 h_9 h_78 | exact absurd h_32 (hy q) | exact absurd h_48 (hx q), rfl⟩⟩)
            · refine j_lload C dX7_times_72 rfl ?_
              refine j_lload_n C dX7_times_74 rfl rfl ?_
              refine j_ldiv C dX7_times_75 (h_9) ?_
              refine j_lload_n C dX7_times_76 rfl rfl ?_
              refine j_lc_eq (tgt := 104) C dX7_times_77 dX7_times_78 (by decide) (fun h_78 => ?_) (fun h_78 => ?_)
              · refine j_lload C dX7_times_104 rfl ?_
                exact j_lret C hr dX7_times_106 (⟨rfl, w, setW_s hw, fun q => q, fun q => Or.inl ⟨mk_ok h_9 h_69 h_78, q⟩⟩)
              · refine j_aload_n C dX7_times_81 rfl rfl ?_
                refine j_dup C dX7_times_82 rfl ?_
                refine g_getI C (o0) fl_X7_139 (by rfl) dX7_times_83 ?_
                refine t_i hw ?_
                refine j_aload_n C dX7_times_86 rfl rfl ?_
                refine g_getI C (o0) fl_X7_142 (by rfl) dX7_times_87 ?_
                refine t_i h8 ?_
                first | refine n_if_ne (tgt := 97) C dX7_times_90 (by decide) (fun h_90 => ?_) (fun h_90 => ?_) | refine j_if_ne (tgt := 97) C dX7_times_90 (by decide) (fun h_90 => ?_) (fun h_90 => ?_)
                · exact absurd h_90 (by decide)
                · refine j_iconst (v := nI 1) C dX7_times_93 (by decide) ?_
                  refine j_goto (tgt := 98) C dX7_times_94 (by decide) ?_
                  refine j_ior C dX7_times_98 ?_
                  refine t_i (or_1 w) ?_
                  refine g_putI C (o0) fw_X7_139 (by rfl) (b2i_n _ rfl) (b2i_f _ rfl) dX7_times_99 ?_
                  refine j_lconst (v := 1) C dX7_times_102 (by decide) ?_
                  exact j_lret C hr dX7_times_103 (⟨rfl, true, rfl, fun _ => rfl, fun q => Or.inr ⟨by first | exact mk_b1 h_69 | exact mk_b2 h_9 h_78 | exact absurd h_32 (hy q) | exact absurd h_48 (hx q), rfl⟩⟩)
        · refine j_lload_n C dX7_times_43 rfl rfl ?_
          refine j_ldc2 C kc_X7_145 dX7_times_44 ?_
          refine j_lc_ne (tgt := 55) C dX7_times_47 dX7_times_48 (by decide) (fun h_48 => ?_) (fun h_48 => ?_)
          · refine j_iconst (v := nI 0) C dX7_times_55 (by decide) ?_
            refine j_istore C dX7_times_56 (by decide) ?_
            refine j_iload C dX7_times_58 rfl ?_
            refine j_if_ne (tgt := 81) C dX7_times_60 (by decide) (fun h_60 => ?_) (fun h_60 => ?_)
            · exact absurd rfl h_60
            · refine j_lload C dX7_times_63 rfl ?_
              refine j_ldc2 C kc_X7_145 dX7_times_65 ?_
              refine j_lc_eq (tgt := 81) C dX7_times_68 dX7_times_69 (by decide) (fun h_69 => ?_) (fun h_69 => ?_)
              · refine j_aload_n C dX7_times_81 rfl rfl ?_
                refine j_dup C dX7_times_82 rfl ?_
                refine g_getI C (o0) fl_X7_139 (by rfl) dX7_times_83 ?_
                refine t_i hw ?_
                refine j_aload_n C dX7_times_86 rfl rfl ?_
                refine g_getI C (o0) fl_X7_142 (by rfl) dX7_times_87 ?_
                refine t_i h8 ?_
                first | refine n_if_ne (tgt := 97) C dX7_times_90 (by decide) (fun h_90 => ?_) (fun h_90 => ?_) | refine j_if_ne (tgt := 97) C dX7_times_90 (by decide) (fun h_90 => ?_) (fun h_90 => ?_)
                · exact absurd h_90 (by decide)
                · refine j_iconst (v := nI 1) C dX7_times_93 (by decide) ?_
                  refine j_goto (tgt := 98) C dX7_times_94 (by decide) ?_
                  refine j_ior C dX7_times_98 ?_
                  refine t_i (or_1 w) ?_
                  refine g_putI C (o0) fw_X7_139 (by rfl) (b2i_n _ rfl) (b2i_f _ rfl) dX7_times_99 ?_
                  refine j_lconst (v := 1) C dX7_times_102 (by decide) ?_
                  exact j_lret C hr dX7_times_103 (⟨rfl, true, rfl, fun _ => rfl, fun q => Or.inr ⟨by first | exact mk_b1 h_69 | exact mk_b2 h_9 h_78 | exact absurd h_32 (hy q) | exact absurd h_48 (hx q), rfl⟩⟩)
              · refine j_lload C dX7_times_72 rfl ?_
                refine j_lload_n C dX7_times_74 rfl rfl ?_
                refine j_ldiv C dX7_times_75 (h_9) ?_
                refine j_lload_n C dX7_times_76 rfl rfl ?_
                refine j_lc_eq (tgt := 104) C dX7_times_77 dX7_times_78 (by decide) (fun h_78 => ?_) (fun h_78 => ?_)
                · refine j_lload C dX7_times_104 rfl ?_
                  exact j_lret C hr dX7_times_106 (⟨rfl, w, setW_s hw, fun q => q, fun q => Or.inl ⟨mk_ok h_9 h_69 h_78, q⟩⟩)
                · refine j_aload_n C dX7_times_81 rfl rfl ?_
                  refine j_dup C dX7_times_82 rfl ?_
                  refine g_getI C (o0) fl_X7_139 (by rfl) dX7_times_83 ?_
                  refine t_i hw ?_
                  refine j_aload_n C dX7_times_86 rfl rfl ?_
                  refine g_getI C (o0) fl_X7_142 (by rfl) dX7_times_87 ?_
                  refine t_i h8 ?_
                  first | refine n_if_ne (tgt := 97) C dX7_times_90 (by decide) (fun h_90 => ?_) (fun h_90 => ?_) | refine j_if_ne (tgt := 97) C dX7_times_90 (by decide) (fun h_90 => ?_) (fun h_90 => ?_)
                  · exact absurd h_90 (by decide)
                  · refine j_iconst (v := nI 1) C dX7_times_93 (by decide) ?_
                    refine j_goto (tgt := 98) C dX7_times_94 (by decide) ?_
                    refine j_ior C dX7_times_98 ?_
                    refine t_i (or_1 w) ?_
                    refine g_putI C (o0) fw_X7_139 (by rfl) (b2i_n _ rfl) (b2i_f _ rfl) dX7_times_99 ?_
                    refine j_lconst (v := 1) C dX7_times_102 (by decide) ?_
                    exact j_lret C hr dX7_times_103 (⟨rfl, true, rfl, fun _ => rfl, fun q => Or.inr ⟨by first | exact mk_b1 h_69 | exact mk_b2 h_9 h_78 | exact absurd h_32 (hy q) | exact absurd h_48 (hx q), rfl⟩⟩)
          · refine j_iconst (v := nI 1) C dX7_times_51 (by decide) ?_
            refine j_goto (tgt := 56) C dX7_times_52 (by decide) ?_
            refine j_istore C dX7_times_56 (by decide) ?_
            refine j_iload C dX7_times_58 rfl ?_
            refine j_if_ne (tgt := 81) C dX7_times_60 (by decide) (fun h_60 => ?_) (fun h_60 => ?_)
            · refine j_aload_n C dX7_times_81 rfl rfl ?_
              refine j_dup C dX7_times_82 rfl ?_
              refine g_getI C (o0) fl_X7_139 (by rfl) dX7_times_83 ?_
              refine t_i hw ?_
              refine j_aload_n C dX7_times_86 rfl rfl ?_
              refine g_getI C (o0) fl_X7_142 (by rfl) dX7_times_87 ?_
              refine t_i h8 ?_
              first | refine n_if_ne (tgt := 97) C dX7_times_90 (by decide) (fun h_90 => ?_) (fun h_90 => ?_) | refine j_if_ne (tgt := 97) C dX7_times_90 (by decide) (fun h_90 => ?_) (fun h_90 => ?_)
              · exact absurd h_90 (by decide)
              · refine j_iconst (v := nI 1) C dX7_times_93 (by decide) ?_
                refine j_goto (tgt := 98) C dX7_times_94 (by decide) ?_
                refine j_ior C dX7_times_98 ?_
                refine t_i (or_1 w) ?_
                refine g_putI C (o0) fw_X7_139 (by rfl) (b2i_n _ rfl) (b2i_f _ rfl) dX7_times_99 ?_
                refine j_lconst (v := 1) C dX7_times_102 (by decide) ?_
                exact j_lret C hr dX7_times_103 (⟨rfl, true, rfl, fun _ => rfl, fun q => Or.inr ⟨by first | exact mk_b1 h_69 | exact mk_b2 h_9 h_78 | exact absurd h_32 (hy q) | exact absurd h_48 (hx q), rfl⟩⟩)
            · exact absurd h_60 (by decide)
      · refine j_lload_n C dX7_times_27 rfl rfl ?_
        refine j_ldc2 C kc_X7_145 dX7_times_28 ?_
        refine j_lc_eq (tgt := 51) C dX7_times_31 dX7_times_32 (by decide) (fun h_32 => ?_) (fun h_32 => ?_)
        · refine j_iconst (v := nI 1) C dX7_times_51 (by decide) ?_
          refine j_goto (tgt := 56) C dX7_times_52 (by decide) ?_
          refine j_istore C dX7_times_56 (by decide) ?_
          refine j_iload C dX7_times_58 rfl ?_
          refine j_if_ne (tgt := 81) C dX7_times_60 (by decide) (fun h_60 => ?_) (fun h_60 => ?_)
          · refine j_aload_n C dX7_times_81 rfl rfl ?_
            refine j_dup C dX7_times_82 rfl ?_
            refine g_getI C (o0) fl_X7_139 (by rfl) dX7_times_83 ?_
            refine t_i hw ?_
            refine j_aload_n C dX7_times_86 rfl rfl ?_
            refine g_getI C (o0) fl_X7_142 (by rfl) dX7_times_87 ?_
            refine t_i h8 ?_
            first | refine n_if_ne (tgt := 97) C dX7_times_90 (by decide) (fun h_90 => ?_) (fun h_90 => ?_) | refine j_if_ne (tgt := 97) C dX7_times_90 (by decide) (fun h_90 => ?_) (fun h_90 => ?_)
            · exact absurd h_90 (by decide)
            · refine j_iconst (v := nI 1) C dX7_times_93 (by decide) ?_
              refine j_goto (tgt := 98) C dX7_times_94 (by decide) ?_
              refine j_ior C dX7_times_98 ?_
              refine t_i (or_1 w) ?_
              refine g_putI C (o0) fw_X7_139 (by rfl) (b2i_n _ rfl) (b2i_f _ rfl) dX7_times_99 ?_
              refine j_lconst (v := 1) C dX7_times_102 (by decide) ?_
              exact j_lret C hr dX7_times_103 (⟨rfl, true, rfl, fun _ => rfl, fun q => Or.inr ⟨by first | exact mk_b1 h_69 | exact mk_b2 h_9 h_78 | exact absurd h_32 (hy q) | exact absurd h_48 (hx q), rfl⟩⟩)
          · exact absurd h_60 (by decide)
        · refine j_lload_n C dX7_times_35 rfl rfl ?_
          refine j_ldc2 C kc_X7_137 dX7_times_36 ?_
          refine j_lc_ne (tgt := 55) C dX7_times_39 dX7_times_40 (by decide) (fun h_40 => ?_) (fun h_40 => ?_)
          · refine j_iconst (v := nI 0) C dX7_times_55 (by decide) ?_
            refine j_istore C dX7_times_56 (by decide) ?_
            refine j_iload C dX7_times_58 rfl ?_
            refine j_if_ne (tgt := 81) C dX7_times_60 (by decide) (fun h_60 => ?_) (fun h_60 => ?_)
            · exact absurd rfl h_60
            · refine j_lload C dX7_times_63 rfl ?_
              refine j_ldc2 C kc_X7_145 dX7_times_65 ?_
              refine j_lc_eq (tgt := 81) C dX7_times_68 dX7_times_69 (by decide) (fun h_69 => ?_) (fun h_69 => ?_)
              · refine j_aload_n C dX7_times_81 rfl rfl ?_
                refine j_dup C dX7_times_82 rfl ?_
                refine g_getI C (o0) fl_X7_139 (by rfl) dX7_times_83 ?_
                refine t_i hw ?_
                refine j_aload_n C dX7_times_86 rfl rfl ?_
                refine g_getI C (o0) fl_X7_142 (by rfl) dX7_times_87 ?_
                refine t_i h8 ?_
                first | refine n_if_ne (tgt := 97) C dX7_times_90 (by decide) (fun h_90 => ?_) (fun h_90 => ?_) | refine j_if_ne (tgt := 97) C dX7_times_90 (by decide) (fun h_90 => ?_) (fun h_90 => ?_)
                · exact absurd h_90 (by decide)
                · refine j_iconst (v := nI 1) C dX7_times_93 (by decide) ?_
                  refine j_goto (tgt := 98) C dX7_times_94 (by decide) ?_
                  refine j_ior C dX7_times_98 ?_
                  refine t_i (or_1 w) ?_
                  refine g_putI C (o0) fw_X7_139 (by rfl) (b2i_n _ rfl) (b2i_f _ rfl) dX7_times_99 ?_
                  refine j_lconst (v := 1) C dX7_times_102 (by decide) ?_
                  exact j_lret C hr dX7_times_103 (⟨rfl, true, rfl, fun _ => rfl, fun q => Or.inr ⟨by first | exact mk_b1 h_69 | exact mk_b2 h_9 h_78 | exact absurd h_32 (hy q) | exact absurd h_48 (hx q), rfl⟩⟩)
              · refine j_lload C dX7_times_72 rfl ?_
                refine j_lload_n C dX7_times_74 rfl rfl ?_
                refine j_ldiv C dX7_times_75 (h_9) ?_
                refine j_lload_n C dX7_times_76 rfl rfl ?_
                refine j_lc_eq (tgt := 104) C dX7_times_77 dX7_times_78 (by decide) (fun h_78 => ?_) (fun h_78 => ?_)
                · refine j_lload C dX7_times_104 rfl ?_
                  exact j_lret C hr dX7_times_106 (⟨rfl, w, setW_s hw, fun q => q, fun q => Or.inl ⟨mk_ok h_9 h_69 h_78, q⟩⟩)
                · refine j_aload_n C dX7_times_81 rfl rfl ?_
                  refine j_dup C dX7_times_82 rfl ?_
                  refine g_getI C (o0) fl_X7_139 (by rfl) dX7_times_83 ?_
                  refine t_i hw ?_
                  refine j_aload_n C dX7_times_86 rfl rfl ?_
                  refine g_getI C (o0) fl_X7_142 (by rfl) dX7_times_87 ?_
                  refine t_i h8 ?_
                  first | refine n_if_ne (tgt := 97) C dX7_times_90 (by decide) (fun h_90 => ?_) (fun h_90 => ?_) | refine j_if_ne (tgt := 97) C dX7_times_90 (by decide) (fun h_90 => ?_) (fun h_90 => ?_)
                  · exact absurd h_90 (by decide)
                  · refine j_iconst (v := nI 1) C dX7_times_93 (by decide) ?_
                    refine j_goto (tgt := 98) C dX7_times_94 (by decide) ?_
                    refine j_ior C dX7_times_98 ?_
                    refine t_i (or_1 w) ?_
                    refine g_putI C (o0) fw_X7_139 (by rfl) (b2i_n _ rfl) (b2i_f _ rfl) dX7_times_99 ?_
                    refine j_lconst (v := 1) C dX7_times_102 (by decide) ?_
                    exact j_lret C hr dX7_times_103 (⟨rfl, true, rfl, fun _ => rfl, fun q => Or.inr ⟨by first | exact mk_b1 h_69 | exact mk_b2 h_9 h_78 | exact absurd h_32 (hy q) | exact absurd h_48 (hx q), rfl⟩⟩)
          · refine j_lload_n C dX7_times_43 rfl rfl ?_
            refine j_ldc2 C kc_X7_145 dX7_times_44 ?_
            refine j_lc_ne (tgt := 55) C dX7_times_47 dX7_times_48 (by decide) (fun h_48 => ?_) (fun h_48 => ?_)
            · refine j_iconst (v := nI 0) C dX7_times_55 (by decide) ?_
              refine j_istore C dX7_times_56 (by decide) ?_
              refine j_iload C dX7_times_58 rfl ?_
              refine j_if_ne (tgt := 81) C dX7_times_60 (by decide) (fun h_60 => ?_) (fun h_60 => ?_)
              · exact absurd rfl h_60
              · refine j_lload C dX7_times_63 rfl ?_
                refine j_ldc2 C kc_X7_145 dX7_times_65 ?_
                refine j_lc_eq (tgt := 81) C dX7_times_68 dX7_times_69 (by decide) (fun h_69 => ?_) (fun h_69 => ?_)
                · refine j_aload_n C dX7_times_81 rfl rfl ?_
                  refine j_dup C dX7_times_82 rfl ?_
                  refine g_getI C (o0) fl_X7_139 (by rfl) dX7_times_83 ?_
                  refine t_i hw ?_
                  refine j_aload_n C dX7_times_86 rfl rfl ?_
                  refine g_getI C (o0) fl_X7_142 (by rfl) dX7_times_87 ?_
                  refine t_i h8 ?_
                  first | refine n_if_ne (tgt := 97) C dX7_times_90 (by decide) (fun h_90 => ?_) (fun h_90 => ?_) | refine j_if_ne (tgt := 97) C dX7_times_90 (by decide) (fun h_90 => ?_) (fun h_90 => ?_)
                  · exact absurd h_90 (by decide)
                  · refine j_iconst (v := nI 1) C dX7_times_93 (by decide) ?_
                    refine j_goto (tgt := 98) C dX7_times_94 (by decide) ?_
                    refine j_ior C dX7_times_98 ?_
                    refine t_i (or_1 w) ?_
                    refine g_putI C (o0) fw_X7_139 (by rfl) (b2i_n _ rfl) (b2i_f _ rfl) dX7_times_99 ?_
                    refine j_lconst (v := 1) C dX7_times_102 (by decide) ?_
                    exact j_lret C hr dX7_times_103 (⟨rfl, true, rfl, fun _ => rfl, fun q => Or.inr ⟨by first | exact mk_b1 h_69 | exact mk_b2 h_9 h_78 | exact absurd h_32 (hy q) | exact absurd h_48 (hx q), rfl⟩⟩)
                · refine j_lload C dX7_times_72 rfl ?_
                  refine j_lload_n C dX7_times_74 rfl rfl ?_
                  refine j_ldiv C dX7_times_75 (h_9) ?_
                  refine j_lload_n C dX7_times_76 rfl rfl ?_
                  refine j_lc_eq (tgt := 104) C dX7_times_77 dX7_times_78 (by decide) (fun h_78 => ?_) (fun h_78 => ?_)
                  · refine j_lload C dX7_times_104 rfl ?_
                    exact j_lret C hr dX7_times_106 (⟨rfl, w, setW_s hw, fun q => q, fun q => Or.inl ⟨mk_ok h_9 h_69 h_78, q⟩⟩)
                  · refine j_aload_n C dX7_times_81 rfl rfl ?_
                    refine j_dup C dX7_times_82 rfl ?_
                    refine g_getI C (o0) fl_X7_139 (by rfl) dX7_times_83 ?_
                    refine t_i hw ?_
                    refine j_aload_n C dX7_times_86 rfl rfl ?_
                    refine g_getI C (o0) fl_X7_142 (by rfl) dX7_times_87 ?_
                    refine t_i h8 ?_
                    first | refine n_if_ne (tgt := 97) C dX7_times_90 (by decide) (fun h_90 => ?_) (fun h_90 => ?_) | refine j_if_ne (tgt := 97) C dX7_times_90 (by decide) (fun h_90 => ?_) (fun h_90 => ?_)
                    · exact absurd h_90 (by decide)
                    · refine j_iconst (v := nI 1) C dX7_times_93 (by decide) ?_
                      refine j_goto (tgt := 98) C dX7_times_94 (by decide) ?_
                      refine j_ior C dX7_times_98 ?_
                      refine t_i (or_1 w) ?_
                      refine g_putI C (o0) fw_X7_139 (by rfl) (b2i_n _ rfl) (b2i_f _ rfl) dX7_times_99 ?_
                      refine j_lconst (v := 1) C dX7_times_102 (by decide) ?_
                      exact j_lret C hr dX7_times_103 (⟨rfl, true, rfl, fun _ => rfl, fun q => Or.inr ⟨by first | exact mk_b1 h_69 | exact mk_b2 h_9 h_78 | exact absurd h_32 (hy q) | exact absurd h_48 (hx q), rfl⟩⟩)
            · refine j_iconst (v := nI 1) C dX7_times_51 (by decide) ?_
              refine j_goto (tgt := 56) C dX7_times_52 (by decide) ?_
              refine j_istore C dX7_times_56 (by decide) ?_
              refine j_iload C dX7_times_58 rfl ?_
              refine j_if_ne (tgt := 81) C dX7_times_60 (by decide) (fun h_60 => ?_) (fun h_60 => ?_)
              · refine j_aload_n C dX7_times_81 rfl rfl ?_
                refine j_dup C dX7_times_82 rfl ?_
                refine g_getI C (o0) fl_X7_139 (by rfl) dX7_times_83 ?_
                refine t_i hw ?_
                refine j_aload_n C dX7_times_86 rfl rfl ?_
                refine g_getI C (o0) fl_X7_142 (by rfl) dX7_times_87 ?_
                refine t_i h8 ?_
                first | refine n_if_ne (tgt := 97) C dX7_times_90 (by decide) (fun h_90 => ?_) (fun h_90 => ?_) | refine j_if_ne (tgt := 97) C dX7_times_90 (by decide) (fun h_90 => ?_) (fun h_90 => ?_)
                · exact absurd h_90 (by decide)
                · refine j_iconst (v := nI 1) C dX7_times_93 (by decide) ?_
                  refine j_goto (tgt := 98) C dX7_times_94 (by decide) ?_
                  refine j_ior C dX7_times_98 ?_
                  refine t_i (or_1 w) ?_
                  refine g_putI C (o0) fw_X7_139 (by rfl) (b2i_n _ rfl) (b2i_f _ rfl) dX7_times_99 ?_
                  refine j_lconst (v := 1) C dX7_times_102 (by decide) ?_
                  exact j_lret C hr dX7_times_103 (⟨rfl, true, rfl, fun _ => rfl, fun q => Or.inr ⟨by first | exact mk_b1 h_69 | exact mk_b2 h_9 h_78 | exact absurd h_32 (hy q) | exact absurd h_48 (hx q), rfl⟩⟩)
              · exact absurd h_60 (by decide)
    · refine j_lconst (v := 0) C dX7_times_12 (by decide) ?_
      exact j_lret C hr dX7_times_13 (⟨rfl, w, setW_s hw, fun q => q, fun q => Or.inl ⟨by first | (rw [h_3]; exact mulO_0 y) | (rw [h_9]; exact mulO_0r x), q⟩⟩)

set_option maxHeartbeats 4000000 in
set_option maxRecDepth 20000 in
theorem c_X7_add (l : Launch) (G : GT) (rg : RgT) (I : II) (L : LL) (w : Bool) (x y : Int64) (hms : isMS rg) (hw : I 0 7 = b2i w) (h8 : I 0 8 = b2i false) : CtL l yX7_add cX7_add 7 (some FieldType.long) 1 G rg I L [.ref (gB G + 0), .long x, .long y] (fun r I1 L1 => L = L1 ∧ ∃ w1, setW I w1 = I1 ∧ St1 w w1 (addO x y) r) := by
  refine ctL_of [some (.ref (gB G + 0)), some (.long x), none, some (.long y), none, none, none] rfl (Nat.le_of_ble_eq_true rfl) (by decide) ?_
  intro p e s m args below meth c C hr
  obtain ⟨o0, a1, a2, a3, a4, a5, a6, a7, a8, a9, a10, a11, a12, a13, a14, a15, a16, a17, a18, a19, a20, a21, a22, a23, a24, a25, a26⟩ := id hms
  refine j_lload_n C dX7_add_0 rfl rfl ?_
  refine j_lload_n C dX7_add_1 rfl rfl ?_
  refine j_ladd C dX7_add_2 ?_
  refine j_lstore C dX7_add_3 (by decide) ?_
  refine j_lload_n C dX7_add_5 rfl rfl ?_
  refine j_lload C dX7_add_6 rfl ?_
  refine j_lxor C dX7_add_8 ?_
  refine j_lload_n C dX7_add_9 rfl rfl ?_
  refine j_lload C dX7_add_10 rfl ?_
  refine j_lxor C dX7_add_12 ?_
  refine j_land C dX7_add_13 ?_
  refine j_lconst (v := 0) C dX7_add_14 (by decide) ?_
  refine j_lc_lt (tgt := 28) C dX7_add_15 dX7_add_16 (by decide) (fun h_16 => ?_) (fun h_16 => ?_)
  · refine j_aload_n C dX7_add_28 rfl rfl ?_
    refine j_dup C dX7_add_29 rfl ?_
    refine g_getI C (o0) fl_X7_139 (by rfl) dX7_add_30 ?_
    refine t_i hw ?_
    refine j_aload_n C dX7_add_33 rfl rfl ?_
    refine g_getI C (o0) fl_X7_142 (by rfl) dX7_add_34 ?_
    refine t_i h8 ?_
    first | refine n_if_ne (tgt := 44) C dX7_add_37 (by decide) (fun h_37 => ?_) (fun h_37 => ?_) | refine j_if_ne (tgt := 44) C dX7_add_37 (by decide) (fun h_37 => ?_) (fun h_37 => ?_)
    · exact absurd h_37 (by decide)
    · refine j_iconst (v := nI 1) C dX7_add_40 (by decide) ?_
      refine j_goto (tgt := 45) C dX7_add_41 (by decide) ?_
      refine j_ior C dX7_add_45 ?_
      refine t_i (or_1 w) ?_
      refine g_putI C (o0) fw_X7_139 (by rfl) (b2i_n _ rfl) (b2i_f _ rfl) dX7_add_46 ?_
      refine j_lconst (v := 1) C dX7_add_49 (by decide) ?_
      exact j_lret C hr dX7_add_50 (⟨rfl, true, rfl, fun _ => rfl, fun q => Or.inr ⟨by first | exact ak_b1 h_16 | exact ak_b2 h_25, rfl⟩⟩)
  · refine j_lload C dX7_add_19 rfl ?_
    refine j_ldc2 C kc_X7_145 dX7_add_21 ?_
    refine j_lc_ne (tgt := 51) C dX7_add_24 dX7_add_25 (by decide) (fun h_25 => ?_) (fun h_25 => ?_)
    · refine j_lload C dX7_add_51 rfl ?_
      exact j_lret C hr dX7_add_53 (⟨rfl, w, setW_s hw, fun q => q, fun q => Or.inl ⟨ak_ok h_16 h_25, q⟩⟩)
    · refine j_aload_n C dX7_add_28 rfl rfl ?_
      refine j_dup C dX7_add_29 rfl ?_
      refine g_getI C (o0) fl_X7_139 (by rfl) dX7_add_30 ?_
      refine t_i hw ?_
      refine j_aload_n C dX7_add_33 rfl rfl ?_
      refine g_getI C (o0) fl_X7_142 (by rfl) dX7_add_34 ?_
      refine t_i h8 ?_
      first | refine n_if_ne (tgt := 44) C dX7_add_37 (by decide) (fun h_37 => ?_) (fun h_37 => ?_) | refine j_if_ne (tgt := 44) C dX7_add_37 (by decide) (fun h_37 => ?_) (fun h_37 => ?_)
      · exact absurd h_37 (by decide)
      · refine j_iconst (v := nI 1) C dX7_add_40 (by decide) ?_
        refine j_goto (tgt := 45) C dX7_add_41 (by decide) ?_
        refine j_ior C dX7_add_45 ?_
        refine t_i (or_1 w) ?_
        refine g_putI C (o0) fw_X7_139 (by rfl) (b2i_n _ rfl) (b2i_f _ rfl) dX7_add_46 ?_
        refine j_lconst (v := 1) C dX7_add_49 (by decide) ?_
        exact j_lret C hr dX7_add_50 (⟨rfl, true, rfl, fun _ => rfl, fun q => Or.inr ⟨by first | exact ak_b1 h_16 | exact ak_b2 h_25, rfl⟩⟩)

set_option maxHeartbeats 4000000 in
set_option maxRecDepth 20000 in
theorem c_X7_lowest (l : Launch) (G : GT) (rg : RgT) (I : II) (L : LL) (w : Bool) (u v : Int64) (hms : isMS rg) (hw : I 0 7 = b2i w) (h8 : I 0 8 = b2i false) (hu : w = false → u ≠ LEA) (hv : w = false → v ≠ LEA) (hv0 : w = false → ¬ v = 0) : CtV l yX7_lowest cX7_lowest 11 none 2 G rg I L [.ref (gB G + 0), .long u, .long v] (fun I1 L1 => I = I1 ∧ setU L (if w = true then (0, 1) else red u v) = L1) := by
  refine ctV_of [some (.ref (gB G + 0)), some (.long u), none, some (.long v), none, none, none, none, none, none, none] rfl (Nat.le_of_ble_eq_true rfl) (by decide) ?_
  intro p e s m args below meth c C hr
  obtain ⟨o0, a1, a2, a3, a4, a5, a6, a7, a8, a9, a10, a11, a12, a13, a14, a15, a16, a17, a18, a19, a20, a21, a22, a23, a24, a25, a26⟩ := id hms
  refine j_aload_n C dX7_lowest_0 rfl rfl ?_
  refine j_lconst (v := 0) C dX7_lowest_1 (by decide) ?_
  refine g_putL C (o0) fw_X7_147 (by rfl) rfl (fits_long _) dX7_lowest_2 ?_
  refine j_aload_n C dX7_lowest_5 rfl rfl ?_
  refine j_lconst (v := 1) C dX7_lowest_6 (by decide) ?_
  refine g_putL C (o0) fw_X7_151 (by rfl) rfl (fits_long _) dX7_lowest_7 ?_
  refine j_aload_n C dX7_lowest_10 rfl rfl ?_
  refine g_cvI C vc_X7_154 (c_X7_isWrong l G rg _ _ w hms (by assumption) (by assumption)) ⟨Nat.le_of_ble_eq_true rfl, Nat.le_of_ble_eq_true rfl⟩ (o0) rfl rfl (Nat.le_of_ble_eq_true rfl) ⟨Nat.zero_le _, Nat.zero_le _⟩ dX7_lowest_11 (fun r_11 I_11 L_11 p_11 => ?_)
  obtain ⟨hr_11, rfl, rfl⟩ := p_11
  rcases Bool.eq_false_or_eq_true w with hwt | hwf
  · rw [hwt] at hr_11
    subst hr_11
    refine j_if_eq (tgt := 18) C dX7_lowest_14 (by decide) (fun h_14 => ?_) (fun h_14 => ?_)
    · exact absurd h_14 (by decide)
    · exact j_vret C hr dX7_lowest_17 (⟨rfl, by rw [hwt]; rfl⟩)
  · rw [hwf] at hr_11
    subst hr_11
    have ha := hu hwf
    have hb := hv hwf
    have hv1 := hv0 hwf
    refine j_if_eq (tgt := 18) C dX7_lowest_14 (by decide) (fun h_14 => ?_) (fun h_14 => ?_)
    · have lp : ∀ (fuel : Nat) (x y : Nat), y < fuel → x < 2 ^ 63 → y < 2 ^ 63 → Nat.gcd x y = gcdN u v → J p l e (rmD 2) s m args below meth c (MQ below (QV G rg (fun I1 L1 => I = I1 ∧ setU L (if w = true then (0, 1) else red u v) = L1)) args s 0 0 (rg_A G rg)) 11 G rg 0 0 I (up2 (up2 L 0 5 0) 0 6 1) 46 [some (.ref (gB G + 0)), some (.long u), none, some (.long v), none, some (.long (lN x)), none, some (.long (lN y)), none, none, none] [] := by
        intro fuel
        induction fuel with
        | zero => intro x y h1 hx2 hy2 hg; exfalso; omega
        | succ fuel ih_lp =>
          intro x y h1 hx2 hy2 hg
          refine j_lload C dX7_lowest_46 rfl ?_
          refine j_lconst (v := 0) C dX7_lowest_48 (by decide) ?_
          refine j_lc_eq (tgt := 71) C dX7_lowest_49 dX7_lowest_50 (by decide) (fun h_50 => ?_) (fun h_50 => ?_)
          · have hy0 : y = 0 := lN_0 hy2 h_50
            have hxg : x = gcdN u v := by rw [← hg, hy0, Nat.gcd_zero_right]
            have hnz : ¬ lN x = 0 := by rw [hxg]; exact gcd_n0 ha hb hv1
            refine j_aload_n C dX7_lowest_71 rfl rfl ?_
            refine j_lload_n C dX7_lowest_72 rfl rfl ?_
            refine j_lconst (v := 0) C dX7_lowest_73 (by decide) ?_
            refine j_lc_ge (tgt := 86) C dX7_lowest_74 dX7_lowest_75 (by decide) (fun h_75 => ?_) (fun h_75 => ?_)
            · refine j_lload_n C dX7_lowest_86 rfl rfl ?_
              refine j_lload C dX7_lowest_87 rfl ?_
              refine j_ldiv C dX7_lowest_89 (hnz) ?_
              refine g_putL C (o0) fw_X7_147 (by rfl) rfl (fits_long _) dX7_lowest_90 ?_
              refine j_aload_n C dX7_lowest_93 rfl rfl ?_
              refine j_lload_n C dX7_lowest_94 rfl rfl ?_
              refine j_lconst (v := 0) C dX7_lowest_95 (by decide) ?_
              refine j_lc_ge (tgt := 108) C dX7_lowest_96 dX7_lowest_97 (by decide) (fun h_97 => ?_) (fun h_97 => ?_)
              · refine j_lload_n C dX7_lowest_108 rfl rfl ?_
                refine j_lload C dX7_lowest_109 rfl ?_
                refine j_ldiv C dX7_lowest_111 (hnz) ?_
                refine g_putL C (o0) fw_X7_151 (by rfl) rfl (fits_long _) dX7_lowest_112 ?_
                exact j_vret C hr dX7_lowest_115 (⟨rfl, by rw [hwf, if_neg (by decide)]; first | exact lw_fp hxg h_75 | exact lw_fn ha hb hxg h_75 | exact absurd h_75 h_97 | exact absurd h_97 h_75⟩)
              · refine j_lload_n C dX7_lowest_100 rfl rfl ?_
                refine j_lneg C dX7_lowest_101 ?_
                refine j_lload C dX7_lowest_102 rfl ?_
                refine j_ldiv C dX7_lowest_104 (hnz) ?_
                refine j_goto (tgt := 112) C dX7_lowest_105 (by decide) ?_
                refine g_putL C (o0) fw_X7_151 (by rfl) rfl (fits_long _) dX7_lowest_112 ?_
                exact j_vret C hr dX7_lowest_115 (⟨rfl, by rw [hwf, if_neg (by decide)]; first | exact lw_fp hxg h_75 | exact lw_fn ha hb hxg h_75 | exact absurd h_75 h_97 | exact absurd h_97 h_75⟩)
            · refine j_lload_n C dX7_lowest_78 rfl rfl ?_
              refine j_lneg C dX7_lowest_79 ?_
              refine j_lload C dX7_lowest_80 rfl ?_
              refine j_ldiv C dX7_lowest_82 (hnz) ?_
              refine j_goto (tgt := 90) C dX7_lowest_83 (by decide) ?_
              refine g_putL C (o0) fw_X7_147 (by rfl) rfl (fits_long _) dX7_lowest_90 ?_
              refine j_aload_n C dX7_lowest_93 rfl rfl ?_
              refine j_lload_n C dX7_lowest_94 rfl rfl ?_
              refine j_lconst (v := 0) C dX7_lowest_95 (by decide) ?_
              refine j_lc_ge (tgt := 108) C dX7_lowest_96 dX7_lowest_97 (by decide) (fun h_97 => ?_) (fun h_97 => ?_)
              · refine j_lload_n C dX7_lowest_108 rfl rfl ?_
                refine j_lload C dX7_lowest_109 rfl ?_
                refine j_ldiv C dX7_lowest_111 (hnz) ?_
                refine g_putL C (o0) fw_X7_151 (by rfl) rfl (fits_long _) dX7_lowest_112 ?_
                exact j_vret C hr dX7_lowest_115 (⟨rfl, by rw [hwf, if_neg (by decide)]; first | exact lw_fp hxg h_75 | exact lw_fn ha hb hxg h_75 | exact absurd h_75 h_97 | exact absurd h_97 h_75⟩)
              · refine j_lload_n C dX7_lowest_100 rfl rfl ?_
                refine j_lneg C dX7_lowest_101 ?_
                refine j_lload C dX7_lowest_102 rfl ?_
                refine j_ldiv C dX7_lowest_104 (hnz) ?_
                refine j_goto (tgt := 112) C dX7_lowest_105 (by decide) ?_
                refine g_putL C (o0) fw_X7_151 (by rfl) rfl (fits_long _) dX7_lowest_112 ?_
                exact j_vret C hr dX7_lowest_115 (⟨rfl, by rw [hwf, if_neg (by decide)]; first | exact lw_fp hxg h_75 | exact lw_fn ha hb hxg h_75 | exact absurd h_75 h_97 | exact absurd h_97 h_75⟩)
          · refine j_lload C dX7_lowest_53 rfl ?_
            refine j_lload C dX7_lowest_55 rfl ?_
            refine j_lrem C dX7_lowest_57 (h_50) ?_
            have hy0 : y ≠ 0 := fun q => h_50 (by rw [q]; rfl)
            refine t_l (pk_lRem hx2 (Nat.pos_of_ne_zero hy0) hy2) ?_
            refine j_lstore C dX7_lowest_58 (by decide) ?_
            refine j_lload C dX7_lowest_60 rfl ?_
            refine j_lstore C dX7_lowest_62 (by decide) ?_
            refine j_lload C dX7_lowest_64 rfl ?_
            refine j_lstore C dX7_lowest_66 (by decide) ?_
            refine j_goto (tgt := 46) C dX7_lowest_68 (by decide) ?_
            refine j_rm 9 ?_
            exact ih_lp y (x % y) (Nat.lt_of_lt_of_le (Nat.mod_lt x (Nat.pos_of_ne_zero hy0)) (by omega)) hy2 (Nat.lt_trans (Nat.mod_lt x (Nat.pos_of_ne_zero hy0)) hy2) (gcd_s hg)
      refine j_lload_n C dX7_lowest_18 rfl rfl ?_
      refine j_lconst (v := 0) C dX7_lowest_19 (by decide) ?_
      refine j_lc_ge (tgt := 29) C dX7_lowest_20 dX7_lowest_21 (by decide) (fun h_21 => ?_) (fun h_21 => ?_)
      · refine j_lload_n C dX7_lowest_29 rfl rfl ?_
        refine t_l (abs_pos ha h_21) ?_
        refine j_lstore C dX7_lowest_30 (by decide) ?_
        refine j_lload_n C dX7_lowest_32 rfl rfl ?_
        refine j_lconst (v := 0) C dX7_lowest_33 (by decide) ?_
        refine j_lc_ge (tgt := 43) C dX7_lowest_34 dX7_lowest_35 (by decide) (fun h_35 => ?_) (fun h_35 => ?_)
        · refine j_lload_n C dX7_lowest_43 rfl rfl ?_
          refine t_l (abs_pos hb h_35) ?_
          refine j_lstore C dX7_lowest_44 (by decide) ?_
          exact lp (absN v + 1) (absN u) (absN v) (by omega) (absN_lt ha) (absN_lt hb) rfl
        · refine j_lload_n C dX7_lowest_38 rfl rfl ?_
          refine j_lneg C dX7_lowest_39 ?_
          refine t_l (abs_neg hb h_35) ?_
          refine j_goto (tgt := 44) C dX7_lowest_40 (by decide) ?_
          refine j_lstore C dX7_lowest_44 (by decide) ?_
          exact lp (absN v + 1) (absN u) (absN v) (by omega) (absN_lt ha) (absN_lt hb) rfl
      · refine j_lload_n C dX7_lowest_24 rfl rfl ?_
        refine j_lneg C dX7_lowest_25 ?_
        refine t_l (abs_neg ha h_21) ?_
        refine j_goto (tgt := 30) C dX7_lowest_26 (by decide) ?_
        refine j_lstore C dX7_lowest_30 (by decide) ?_
        refine j_lload_n C dX7_lowest_32 rfl rfl ?_
        refine j_lconst (v := 0) C dX7_lowest_33 (by decide) ?_
        refine j_lc_ge (tgt := 43) C dX7_lowest_34 dX7_lowest_35 (by decide) (fun h_35 => ?_) (fun h_35 => ?_)
        · refine j_lload_n C dX7_lowest_43 rfl rfl ?_
          refine t_l (abs_pos hb h_35) ?_
          refine j_lstore C dX7_lowest_44 (by decide) ?_
          exact lp (absN v + 1) (absN u) (absN v) (by omega) (absN_lt ha) (absN_lt hb) rfl
        · refine j_lload_n C dX7_lowest_38 rfl rfl ?_
          refine j_lneg C dX7_lowest_39 ?_
          refine t_l (abs_neg hb h_35) ?_
          refine j_goto (tgt := 44) C dX7_lowest_40 (by decide) ?_
          refine j_lstore C dX7_lowest_44 (by decide) ?_
          exact lp (absN v + 1) (absN u) (absN v) (by omega) (absN_lt ha) (absN_lt hb) rfl
    · exact absurd rfl h_14

set_option maxHeartbeats 4000000 in
set_option maxRecDepth 20000 in
theorem c_X7_sum (l : Launch) (G : GT) (rg : RgT) (I : II) (L : LL) (w : Bool) (a b c d : Int64) (hms : isMS rg) (hw : I 0 7 = b2i w) (h8 : I 0 8 = b2i false) (h1 : w = false → WF (a, b)) (h2 : w = false → WF (c, d)) : CtV l yX7_sum cX7_sum 15 none 3 G rg I L [.ref (gB G + 0), .long a, .long b, .long c, .long d] (fun I1 L1 => setW I (mop w (fAdd (a, b) (c, d))).1 = I1 ∧ setU L (mop w (fAdd (a, b) (c, d))).2 = L1) := by
  refine ctV_of [some (.ref (gB G + 0)), some (.long a), none, some (.long b), none, some (.long c), none, some (.long d), none, none, none, none, none, none, none] rfl (Nat.le_of_ble_eq_true rfl) (by decide) ?_
  intro p e s m args below meth c C hr
  obtain ⟨o0, a1, a2, a3, a4, a5, a6, a7, a8, a9, a10, a11, a12, a13, a14, a15, a16, a17, a18, a19, a20, a21, a22, a23, a24, a25, a26⟩ := id hms
  refine j_aload_n C dX7_sum_0 rfl rfl ?_
  refine j_lload_n C dX7_sum_1 rfl rfl ?_
  refine j_lload C dX7_sum_2 rfl ?_
  refine g_cvL C vc_X7_158 (c_X7_times l G rg _ _ w _ _ hms hw h8 (fun q => (h1 q).1) (fun q => (h2 q).ne2)) ⟨Nat.le_of_ble_eq_true rfl, Nat.le_of_ble_eq_true rfl⟩ (o0) rfl rfl (Nat.le_of_ble_eq_true rfl) ⟨Nat.zero_le _, Nat.zero_le _⟩ dX7_sum_4 (fun r_4 I_4 L_4 p_4 => ?_)
  obtain ⟨rfl, w4, e4, s4⟩ := p_4
  try rw [setW_2] at e4
  subst e4
  refine j_lstore C dX7_sum_7 (by decide) ?_
  refine j_aload_n C dX7_sum_9 rfl rfl ?_
  refine j_lload C dX7_sum_10 rfl ?_
  refine j_lload_n C dX7_sum_12 rfl rfl ?_
  refine g_cvL C vc_X7_158 (c_X7_times l G rg _ _ w4 _ _ hms (setW_7 _ _) ((setW_k _ _ (by decide)).trans h8) (fun q => (h2 (bwd s4.1 q)).1) (fun q => (h1 (bwd s4.1 q)).ne2)) ⟨Nat.le_of_ble_eq_true rfl, Nat.le_of_ble_eq_true rfl⟩ (o0) rfl rfl (Nat.le_of_ble_eq_true rfl) ⟨Nat.zero_le _, Nat.zero_le _⟩ dX7_sum_13 (fun r_13 I_13 L_13 p_13 => ?_)
  obtain ⟨rfl, w13, e13, s13⟩ := p_13
  try rw [setW_2] at e13
  subst e13
  refine j_lstore C dX7_sum_16 (by decide) ?_
  refine j_aload_n C dX7_sum_18 rfl rfl ?_
  refine j_lload C dX7_sum_19 rfl ?_
  refine j_lload C dX7_sum_21 rfl ?_
  refine g_cvL C vc_X7_162 (c_X7_add l G rg _ _ w13 _ _ hms (setW_7 _ _) ((setW_k _ _ (by decide)).trans h8)) ⟨Nat.le_of_ble_eq_true rfl, Nat.le_of_ble_eq_true rfl⟩ (o0) rfl rfl (Nat.le_of_ble_eq_true rfl) ⟨Nat.zero_le _, Nat.zero_le _⟩ dX7_sum_23 (fun r_23 I_23 L_23 p_23 => ?_)
  obtain ⟨rfl, w23, e23, s23⟩ := p_23
  try rw [setW_2] at e23
  subst e23
  refine j_lstore C dX7_sum_26 (by decide) ?_
  refine j_aload_n C dX7_sum_28 rfl rfl ?_
  refine j_lload C dX7_sum_29 rfl ?_
  refine j_aload_n C dX7_sum_31 rfl rfl ?_
  refine j_lload_n C dX7_sum_32 rfl rfl ?_
  refine j_lload C dX7_sum_33 rfl ?_
  refine g_cvL C vc_X7_158 (c_X7_times l G rg _ _ w23 _ _ hms (setW_7 _ _) ((setW_k _ _ (by decide)).trans h8) (fun q => (h1 (bwd s4.1 (bwd s13.1 (bwd s23.1 q)))).ne2) (fun q => (h2 (bwd s4.1 (bwd s13.1 (bwd s23.1 q)))).ne2)) ⟨Nat.le_of_ble_eq_true rfl, Nat.le_of_ble_eq_true rfl⟩ (o0) rfl rfl (Nat.le_of_ble_eq_true rfl) ⟨Nat.zero_le _, Nat.zero_le _⟩ dX7_sum_35 (fun r_35 I_35 L_35 p_35 => ?_)
  obtain ⟨rfl, w35, e35, s35⟩ := p_35
  try rw [setW_2] at e35
  subst e35
  refine g_cvV C vc_X7_165 (c_X7_lowest l G rg _ _ w35 _ _ hms (setW_7 _ _) ((setW_k _ _ (by decide)).trans h8) (fun q => s23.ne (fun _ z => (addO_ne z).1) (bwd s35.1 q)) (s35.ne (fun _ z => (mulO_ne z).1)) (fun q => mul_n0 (h1 (bwd s4.1 (bwd s13.1 (bwd s23.1 (bwd s35.1 q))))).i2 (h2 (bwd s4.1 (bwd s13.1 (bwd s23.1 (bwd s35.1 q))))).i2 (s35.so q))) ⟨Nat.le_of_ble_eq_true rfl, Nat.le_of_ble_eq_true rfl⟩ (o0) rfl rfl (Nat.le_of_ble_eq_true rfl) ⟨Nat.zero_le _, Nat.zero_le _⟩ dX7_sum_38 (fun I_38 L_38 p_38 => ?_)
  obtain ⟨rfl, p2⟩ := p_38
  exact j_vret C hr dX7_sum_41 (by have e := St1.fin (s4.add s13 s23) s35 (fun q => mul_n0 (h1 (bwd s4.1 (bwd s13.1 (bwd s23.1 (bwd s35.1 q))))).i2 (h2 (bwd s4.1 (bwd s13.1 (bwd s23.1 (bwd s35.1 q))))).i2 (s35.so q)); exact ⟨(congrArg (fun z : Bool × Fr => setW I z.1) e).symm, (congrArg (fun z : Bool × Fr => setU L z.2) e).symm.trans p2⟩)

set_option maxHeartbeats 4000000 in
set_option maxRecDepth 20000 in
theorem c_X7_difference (l : Launch) (G : GT) (rg : RgT) (I : II) (L : LL) (w : Bool) (a b c d : Int64) (hms : isMS rg) (hw : I 0 7 = b2i w) (h8 : I 0 8 = b2i false) (h1 : w = false → WF (a, b)) (h2 : w = false → WF (c, d)) : CtV l yX7_difference cX7_difference 15 none 3 G rg I L [.ref (gB G + 0), .long a, .long b, .long c, .long d] (fun I1 L1 => setW I (mop w (fSub (a, b) (c, d))).1 = I1 ∧ setU L (mop w (fSub (a, b) (c, d))).2 = L1) := by
  refine ctV_of [some (.ref (gB G + 0)), some (.long a), none, some (.long b), none, some (.long c), none, some (.long d), none, none, none, none, none, none, none] rfl (Nat.le_of_ble_eq_true rfl) (by decide) ?_
  intro p e s m args below meth c C hr
  obtain ⟨o0, a1, a2, a3, a4, a5, a6, a7, a8, a9, a10, a11, a12, a13, a14, a15, a16, a17, a18, a19, a20, a21, a22, a23, a24, a25, a26⟩ := id hms
  refine j_aload_n C dX7_difference_0 rfl rfl ?_
  refine j_lload_n C dX7_difference_1 rfl rfl ?_
  refine j_lload C dX7_difference_2 rfl ?_
  refine g_cvL C vc_X7_158 (c_X7_times l G rg _ _ w _ _ hms hw h8 (fun q => (h1 q).1) (fun q => (h2 q).ne2)) ⟨Nat.le_of_ble_eq_true rfl, Nat.le_of_ble_eq_true rfl⟩ (o0) rfl rfl (Nat.le_of_ble_eq_true rfl) ⟨Nat.zero_le _, Nat.zero_le _⟩ dX7_difference_4 (fun r_4 I_4 L_4 p_4 => ?_)
  obtain ⟨rfl, w4, e4, s4⟩ := p_4
  try rw [setW_2] at e4
  subst e4
  refine j_lstore C dX7_difference_7 (by decide) ?_
  refine j_aload_n C dX7_difference_9 rfl rfl ?_
  refine j_lload C dX7_difference_10 rfl ?_
  refine j_lload_n C dX7_difference_12 rfl rfl ?_
  refine g_cvL C vc_X7_158 (c_X7_times l G rg _ _ w4 _ _ hms (setW_7 _ _) ((setW_k _ _ (by decide)).trans h8) (fun q => (h2 (bwd s4.1 q)).1) (fun q => (h1 (bwd s4.1 q)).ne2)) ⟨Nat.le_of_ble_eq_true rfl, Nat.le_of_ble_eq_true rfl⟩ (o0) rfl rfl (Nat.le_of_ble_eq_true rfl) ⟨Nat.zero_le _, Nat.zero_le _⟩ dX7_difference_13 (fun r_13 I_13 L_13 p_13 => ?_)
  obtain ⟨rfl, w13, e13, s13⟩ := p_13
  try rw [setW_2] at e13
  subst e13
  refine j_lstore C dX7_difference_16 (by decide) ?_
  refine j_aload_n C dX7_difference_18 rfl rfl ?_
  refine j_lload C dX7_difference_19 rfl ?_
  refine j_lload C dX7_difference_21 rfl ?_
  refine j_lneg C dX7_difference_23 ?_
  refine g_cvL C vc_X7_162 (c_X7_add l G rg _ _ w13 _ _ hms (setW_7 _ _) ((setW_k _ _ (by decide)).trans h8)) ⟨Nat.le_of_ble_eq_true rfl, Nat.le_of_ble_eq_true rfl⟩ (o0) rfl rfl (Nat.le_of_ble_eq_true rfl) ⟨Nat.zero_le _, Nat.zero_le _⟩ dX7_difference_24 (fun r_24 I_24 L_24 p_24 => ?_)
  obtain ⟨rfl, w24, e24, s24⟩ := p_24
  try rw [setW_2] at e24
  subst e24
  refine j_lstore C dX7_difference_27 (by decide) ?_
  refine j_aload_n C dX7_difference_29 rfl rfl ?_
  refine j_lload C dX7_difference_30 rfl ?_
  refine j_aload_n C dX7_difference_32 rfl rfl ?_
  refine j_lload_n C dX7_difference_33 rfl rfl ?_
  refine j_lload C dX7_difference_34 rfl ?_
  refine g_cvL C vc_X7_158 (c_X7_times l G rg _ _ w24 _ _ hms (setW_7 _ _) ((setW_k _ _ (by decide)).trans h8) (fun q => (h1 (bwd s4.1 (bwd s13.1 (bwd s24.1 q)))).ne2) (fun q => (h2 (bwd s4.1 (bwd s13.1 (bwd s24.1 q)))).ne2)) ⟨Nat.le_of_ble_eq_true rfl, Nat.le_of_ble_eq_true rfl⟩ (o0) rfl rfl (Nat.le_of_ble_eq_true rfl) ⟨Nat.zero_le _, Nat.zero_le _⟩ dX7_difference_36 (fun r_36 I_36 L_36 p_36 => ?_)
  obtain ⟨rfl, w36, e36, s36⟩ := p_36
  try rw [setW_2] at e36
  subst e36
  refine g_cvV C vc_X7_165 (c_X7_lowest l G rg _ _ w36 _ _ hms (setW_7 _ _) ((setW_k _ _ (by decide)).trans h8) (fun q => s24.ne (fun _ z => (addO_ne z).1) (bwd s36.1 q)) (s36.ne (fun _ z => (mulO_ne z).1)) (fun q => mul_n0 (h1 (bwd s4.1 (bwd s13.1 (bwd s24.1 (bwd s36.1 q))))).i2 (h2 (bwd s4.1 (bwd s13.1 (bwd s24.1 (bwd s36.1 q))))).i2 (s36.so q))) ⟨Nat.le_of_ble_eq_true rfl, Nat.le_of_ble_eq_true rfl⟩ (o0) rfl rfl (Nat.le_of_ble_eq_true rfl) ⟨Nat.zero_le _, Nat.zero_le _⟩ dX7_difference_39 (fun I_39 L_39 p_39 => ?_)
  obtain ⟨rfl, p2⟩ := p_39
  exact j_vret C hr dX7_difference_42 (by have e := St1.fin (s4.sub s13 (fun q => s13.ne (fun _ z => (mulO_ne z).1) q) s24) s36 (fun q => mul_n0 (h1 (bwd s4.1 (bwd s13.1 (bwd s24.1 (bwd s36.1 q))))).i2 (h2 (bwd s4.1 (bwd s13.1 (bwd s24.1 (bwd s36.1 q))))).i2 (s36.so q)); exact ⟨(congrArg (fun z : Bool × Fr => setW I z.1) e).symm, (congrArg (fun z : Bool × Fr => setU L z.2) e).symm.trans p2⟩)

set_option maxHeartbeats 4000000 in
set_option maxRecDepth 20000 in
theorem c_X7_product (l : Launch) (G : GT) (rg : RgT) (I : II) (L : LL) (w : Bool) (a b c d : Int64) (hms : isMS rg) (hw : I 0 7 = b2i w) (h8 : I 0 8 = b2i false) (h1 : w = false → WF (a, b)) (h2 : w = false → WF (c, d)) : CtV l yX7_product cX7_product 11 none 3 G rg I L [.ref (gB G + 0), .long a, .long b, .long c, .long d] (fun I1 L1 => setW I (mop w (fMul (a, b) (c, d))).1 = I1 ∧ setU L (mop w (fMul (a, b) (c, d))).2 = L1) := by
  refine ctV_of [some (.ref (gB G + 0)), some (.long a), none, some (.long b), none, some (.long c), none, some (.long d), none, none, none] rfl (Nat.le_of_ble_eq_true rfl) (by decide) ?_
  intro p e s m args below meth c C hr
  obtain ⟨o0, a1, a2, a3, a4, a5, a6, a7, a8, a9, a10, a11, a12, a13, a14, a15, a16, a17, a18, a19, a20, a21, a22, a23, a24, a25, a26⟩ := id hms
  refine j_aload_n C dX7_product_0 rfl rfl ?_
  refine j_lload_n C dX7_product_1 rfl rfl ?_
  refine j_lload C dX7_product_2 rfl ?_
  refine g_cvL C vc_X7_158 (c_X7_times l G rg _ _ w _ _ hms hw h8 (fun q => (h1 q).1) (fun q => (h2 q).1)) ⟨Nat.le_of_ble_eq_true rfl, Nat.le_of_ble_eq_true rfl⟩ (o0) rfl rfl (Nat.le_of_ble_eq_true rfl) ⟨Nat.zero_le _, Nat.zero_le _⟩ dX7_product_4 (fun r_4 I_4 L_4 p_4 => ?_)
  obtain ⟨rfl, w4, e4, s4⟩ := p_4
  try rw [setW_2] at e4
  subst e4
  refine j_lstore C dX7_product_7 (by decide) ?_
  refine j_aload_n C dX7_product_9 rfl rfl ?_
  refine j_lload C dX7_product_10 rfl ?_
  refine j_aload_n C dX7_product_12 rfl rfl ?_
  refine j_lload_n C dX7_product_13 rfl rfl ?_
  refine j_lload C dX7_product_14 rfl ?_
  refine g_cvL C vc_X7_158 (c_X7_times l G rg _ _ w4 _ _ hms (setW_7 _ _) ((setW_k _ _ (by decide)).trans h8) (fun q => (h1 (bwd s4.1 q)).ne2) (fun q => (h2 (bwd s4.1 q)).ne2)) ⟨Nat.le_of_ble_eq_true rfl, Nat.le_of_ble_eq_true rfl⟩ (o0) rfl rfl (Nat.le_of_ble_eq_true rfl) ⟨Nat.zero_le _, Nat.zero_le _⟩ dX7_product_16 (fun r_16 I_16 L_16 p_16 => ?_)
  obtain ⟨rfl, w16, e16, s16⟩ := p_16
  try rw [setW_2] at e16
  subst e16
  refine g_cvV C vc_X7_165 (c_X7_lowest l G rg _ _ w16 _ _ hms (setW_7 _ _) ((setW_k _ _ (by decide)).trans h8) (fun q => s4.ne (fun _ z => (mulO_ne z).1) (bwd s16.1 q)) (s16.ne (fun _ z => (mulO_ne z).1)) (fun q => mul_n0 (h1 (bwd s4.1 (bwd s16.1 q))).i2 (h2 (bwd s4.1 (bwd s16.1 q))).i2 (s16.so q))) ⟨Nat.le_of_ble_eq_true rfl, Nat.le_of_ble_eq_true rfl⟩ (o0) rfl rfl (Nat.le_of_ble_eq_true rfl) ⟨Nat.zero_le _, Nat.zero_le _⟩ dX7_product_19 (fun I_19 L_19 p_19 => ?_)
  obtain ⟨rfl, p2⟩ := p_19
  exact j_vret C hr dX7_product_22 (by have e := St1.fin s4 s16 (fun q => mul_n0 (h1 (bwd s4.1 (bwd s16.1 q))).i2 (h2 (bwd s4.1 (bwd s16.1 q))).i2 (s16.so q)); exact ⟨(congrArg (fun z : Bool × Fr => setW I z.1) e).symm, (congrArg (fun z : Bool × Fr => setU L z.2) e).symm.trans p2⟩)

set_option maxHeartbeats 4000000 in
set_option maxRecDepth 20000 in
theorem c_X7_quotient (l : Launch) (G : GT) (rg : RgT) (I : II) (L : LL) (w : Bool) (a b c d : Int64) (hms : isMS rg) (hw : I 0 7 = b2i w) (h8 : I 0 8 = b2i false) (h1 : w = false → WF (a, b)) (h2 : w = false → WF (c, d)) (hc : w = false → ¬ c = 0) : CtV l yX7_quotient cX7_quotient 11 none 3 G rg I L [.ref (gB G + 0), .long a, .long b, .long c, .long d] (fun I1 L1 => setW I (mop w (fDiv (a, b) (c, d))).1 = I1 ∧ setU L (mop w (fDiv (a, b) (c, d))).2 = L1) := by
  refine ctV_of [some (.ref (gB G + 0)), some (.long a), none, some (.long b), none, some (.long c), none, some (.long d), none, none, none] rfl (Nat.le_of_ble_eq_true rfl) (by decide) ?_
  intro p e s m args below meth c C hr
  obtain ⟨o0, a1, a2, a3, a4, a5, a6, a7, a8, a9, a10, a11, a12, a13, a14, a15, a16, a17, a18, a19, a20, a21, a22, a23, a24, a25, a26⟩ := id hms
  refine j_aload_n C dX7_quotient_0 rfl rfl ?_
  refine j_dup C dX7_quotient_1 rfl ?_
  refine g_getI C (o0) fl_X7_142 (by rfl) dX7_quotient_2 ?_
  refine t_i h8 ?_
  refine j_lload C dX7_quotient_5 rfl ?_
  refine j_lconst (v := 0) C dX7_quotient_7 (by decide) ?_
  refine j_lc_ne (tgt := 23) C dX7_quotient_8 dX7_quotient_9 (by decide) (fun h_9 => ?_) (fun h_9 => ?_)
  · refine j_iconst (v := nI 0) C dX7_quotient_23 (by decide) ?_
    refine j_ior C dX7_quotient_24 ?_
    refine t_i (or_0 false) ?_
    refine g_putI C (o0) fw_X7_142 (by rfl) (b2i_n _ rfl) (b2i_f _ rfl) dX7_quotient_25 ?_
    refine t_IL (up2_same I h8) rfl ?_
    refine j_aload_n C dX7_quotient_28 rfl rfl ?_
    refine j_lload_n C dX7_quotient_29 rfl rfl ?_
    refine j_lload C dX7_quotient_30 rfl ?_
    refine g_cvL C vc_X7_158 (c_X7_times l G rg _ _ w _ _ hms hw h8 (fun q => (h1 q).1) (fun q => (h2 q).ne2)) ⟨Nat.le_of_ble_eq_true rfl, Nat.le_of_ble_eq_true rfl⟩ (o0) rfl rfl (Nat.le_of_ble_eq_true rfl) ⟨Nat.zero_le _, Nat.zero_le _⟩ dX7_quotient_32 (fun r_32 I_32 L_32 p_32 => ?_)
    obtain ⟨rfl, w32, e32, s32⟩ := p_32
    try rw [setW_2] at e32
    subst e32
    refine j_lstore C dX7_quotient_35 (by decide) ?_
    refine j_aload_n C dX7_quotient_37 rfl rfl ?_
    refine j_lload C dX7_quotient_38 rfl ?_
    refine j_aload_n C dX7_quotient_40 rfl rfl ?_
    refine j_lload_n C dX7_quotient_41 rfl rfl ?_
    refine j_lload C dX7_quotient_42 rfl ?_
    refine g_cvL C vc_X7_158 (c_X7_times l G rg _ _ w32 _ _ hms (setW_7 _ _) ((setW_k _ _ (by decide)).trans h8) (fun q => (h1 (bwd s32.1 q)).ne2) (fun q => (h2 (bwd s32.1 q)).1)) ⟨Nat.le_of_ble_eq_true rfl, Nat.le_of_ble_eq_true rfl⟩ (o0) rfl rfl (Nat.le_of_ble_eq_true rfl) ⟨Nat.zero_le _, Nat.zero_le _⟩ dX7_quotient_44 (fun r_44 I_44 L_44 p_44 => ?_)
    obtain ⟨rfl, w44, e44, s44⟩ := p_44
    try rw [setW_2] at e44
    subst e44
    refine g_cvV C vc_X7_165 (c_X7_lowest l G rg _ _ w44 _ _ hms (setW_7 _ _) ((setW_k _ _ (by decide)).trans h8) (fun q => s32.ne (fun _ z => (mulO_ne z).1) (bwd s44.1 q)) (s44.ne (fun _ z => (mulO_ne z).1)) (fun q => mul_n0 (h1 (bwd s32.1 (bwd s44.1 q))).i2 (fun z => hc (bwd s32.1 (bwd s44.1 q)) (i64_e0 z)) (s44.so q))) ⟨Nat.le_of_ble_eq_true rfl, Nat.le_of_ble_eq_true rfl⟩ (o0) rfl rfl (Nat.le_of_ble_eq_true rfl) ⟨Nat.zero_le _, Nat.zero_le _⟩ dX7_quotient_47 (fun I_47 L_47 p_47 => ?_)
    obtain ⟨rfl, p2⟩ := p_47
    exact j_vret C hr dX7_quotient_50 (by have e := St1.fin s32 s44 (fun q => mul_n0 (h1 (bwd s32.1 (bwd s44.1 q))).i2 (fun z => hc (bwd s32.1 (bwd s44.1 q)) (i64_e0 z)) (s44.so q)); exact ⟨(congrArg (fun z : Bool × Fr => setW I z.1) e).symm, (congrArg (fun z : Bool × Fr => setU L z.2) e).symm.trans p2⟩)
  · refine j_aload_n C dX7_quotient_12 rfl rfl ?_
    refine g_getI C (o0) fl_X7_139 (by rfl) dX7_quotient_13 ?_
    refine t_i hw ?_
    first | refine n_if_ne (tgt := 23) C dX7_quotient_16 (by decide) (fun h_16 => ?_) (fun h_16 => ?_) | refine j_if_ne (tgt := 23) C dX7_quotient_16 (by decide) (fun h_16 => ?_) (fun h_16 => ?_)
    · refine j_iconst (v := nI 0) C dX7_quotient_23 (by decide) ?_
      refine j_ior C dX7_quotient_24 ?_
      refine t_i (or_0 false) ?_
      refine g_putI C (o0) fw_X7_142 (by rfl) (b2i_n _ rfl) (b2i_f _ rfl) dX7_quotient_25 ?_
      refine t_IL (up2_same I h8) rfl ?_
      refine j_aload_n C dX7_quotient_28 rfl rfl ?_
      refine j_lload_n C dX7_quotient_29 rfl rfl ?_
      refine j_lload C dX7_quotient_30 rfl ?_
      refine g_cvL C vc_X7_158 (c_X7_times l G rg _ _ w _ _ hms hw h8 (fun q => (h1 q).1) (fun q => (h2 q).ne2)) ⟨Nat.le_of_ble_eq_true rfl, Nat.le_of_ble_eq_true rfl⟩ (o0) rfl rfl (Nat.le_of_ble_eq_true rfl) ⟨Nat.zero_le _, Nat.zero_le _⟩ dX7_quotient_32 (fun r_32 I_32 L_32 p_32 => ?_)
      obtain ⟨rfl, w32, e32, s32⟩ := p_32
      try rw [setW_2] at e32
      subst e32
      refine j_lstore C dX7_quotient_35 (by decide) ?_
      refine j_aload_n C dX7_quotient_37 rfl rfl ?_
      refine j_lload C dX7_quotient_38 rfl ?_
      refine j_aload_n C dX7_quotient_40 rfl rfl ?_
      refine j_lload_n C dX7_quotient_41 rfl rfl ?_
      refine j_lload C dX7_quotient_42 rfl ?_
      refine g_cvL C vc_X7_158 (c_X7_times l G rg _ _ w32 _ _ hms (setW_7 _ _) ((setW_k _ _ (by decide)).trans h8) (fun q => (h1 (bwd s32.1 q)).ne2) (fun q => (h2 (bwd s32.1 q)).1)) ⟨Nat.le_of_ble_eq_true rfl, Nat.le_of_ble_eq_true rfl⟩ (o0) rfl rfl (Nat.le_of_ble_eq_true rfl) ⟨Nat.zero_le _, Nat.zero_le _⟩ dX7_quotient_44 (fun r_44 I_44 L_44 p_44 => ?_)
      obtain ⟨rfl, w44, e44, s44⟩ := p_44
      try rw [setW_2] at e44
      subst e44
      refine g_cvV C vc_X7_165 (c_X7_lowest l G rg _ _ w44 _ _ hms (setW_7 _ _) ((setW_k _ _ (by decide)).trans h8) (fun q => s32.ne (fun _ z => (mulO_ne z).1) (bwd s44.1 q)) (s44.ne (fun _ z => (mulO_ne z).1)) (fun q => mul_n0 (h1 (bwd s32.1 (bwd s44.1 q))).i2 (fun z => hc (bwd s32.1 (bwd s44.1 q)) (i64_e0 z)) (s44.so q))) ⟨Nat.le_of_ble_eq_true rfl, Nat.le_of_ble_eq_true rfl⟩ (o0) rfl rfl (Nat.le_of_ble_eq_true rfl) ⟨Nat.zero_le _, Nat.zero_le _⟩ dX7_quotient_47 (fun I_47 L_47 p_47 => ?_)
      obtain ⟨rfl, p2⟩ := p_47
      exact j_vret C hr dX7_quotient_50 (by have e := St1.fin s32 s44 (fun q => mul_n0 (h1 (bwd s32.1 (bwd s44.1 q))).i2 (fun z => hc (bwd s32.1 (bwd s44.1 q)) (i64_e0 z)) (s44.so q)); exact ⟨(congrArg (fun z : Bool × Fr => setW I z.1) e).symm, (congrArg (fun z : Bool × Fr => setU L z.2) e).symm.trans p2⟩)
    · exact absurd h_9 (hc h_16)
