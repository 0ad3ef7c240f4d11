/-! ===== a region that grows ===== -/
def GB (G : GT) : Nat → Prop := fun q => gB G ≤ q
def JG (p : Program) (l : Launch) (e : Env) (R : Room) (s : State) (m : MethodId) (args : Array Value) (below : List Frame) (meth : Method) (c : Code) (Q : State → Prop) (nL : Nat) (G : GT) (rg : RgT) (kc ks : Nat) (I : II) (L : LL) (pc : Nat) (lv : LV) (st : List Value) : Prop :=
  ∀ (H : Heap) (locs : List Loc) (ls : Array Slot), H.size = gB G + rg.1 → H.size = s.heap.size + kc → va_P G.1 vwCl (rg_W G rg I L) H → va_S (GB G) s.heap H locs → lv_has ls nL (asl 0 lv) → W p l e R s m args below meth c H locs kc ks Q (F0 m pc ls st)
theorem W_sz {p : Program} {l : Launch} {e : Env} {R : Room} {s : State} {m : MethodId} {args : Array Value} {below : List Frame} {meth : Method} {c : Code} {H : Heap} {locs : List Loc} {cells slots : Nat} {Q : State → Prop} {g : JFrame} (h : H.size ≤ s.heap.size + cells → W p l e R s m args below meth c H locs cells slots Q g) : W p l e R s m args below meth c H locs cells slots Q g := fun T hT X => h (by have := X.same.2.2.1; rw [← hT]; exact this) T hT X
theorem rg_DB {G : GT} {rg : RgT} {I : II} {L : LL} : va_D (GB G) (rg_W G rg I L) := ⟨rg_D.1, fun k q hk => (rg_D.2 k q hk).1⟩
theorem S_re {A : Nat → Prop} {H0 H : Heap} {locs : List Loc} (h : va_S A H0 H locs) : va_S A H H locs := ⟨Nat.le_refl _, fun _ _ _ => rfl, h.2.2⟩
theorem S_tr {A : Nat → Prop} {H0 H H1 : Heap} {locs locs1 : List Loc} (h : va_S A H0 H locs) (h1 : va_S A H H1 locs1) : va_S A H0 H1 locs1 := ⟨Nat.le_trans h.1 h1.1, fun q a b => (h1.2.1 q (Nat.lt_of_lt_of_le a h.1) b).trans (h.2.1 q a b), h1.2.2⟩
theorem rg_push {G : GT} {rg rg1 : RgT} {I : II} {L : LL} (h1 : rg1.1 = rg.1 + 1) (h2 : ∀ q, q < rg.1 → rg1.2 q = rg.2 q) : rg_W G rg1 I L = rg_W G rg I L ++ [(gB G + rg.1, rg_cell G I L rg.1 (rg1.2 rg.1))] := by
  unfold rg_W
  rw [h1, List.range_succ, List.map_append, List.map_cons, List.map_nil]
  congr 1
  apply List.map_congr_left
  intro o ho
  rw [h2 o (List.mem_range.mp ho)]
theorem arrV_cong {cI : ClassId} {N : Nat} {f g : Nat → Value} (h : ∀ j, j < N → f j = g j) : arrV cI N f = arrV cI N g := by
  unfold arrV
  congr 2
  funext j
  exact h j.val j.isLt
theorem P_push {G : GT} {rg rg1 : RgT} {I : II} {L : LL} {H H1 : Heap} (hP : va_P G.1 vwCl (rg_W G rg I L) H) (hz : H.size = gB G + rg.1) (h1 : rg1.1 = rg.1 + 1) (h2 : ∀ q, q < rg.1 → rg1.2 q = rg.2 q) (o1 : ∀ q, q < gB G + rg.1 → H1[q]? = H[q]?) (hc : va_at G.1 vwCl (gB G + rg.1, rg_cell G I L rg.1 (rg1.2 rg.1)) H1) : va_P G.1 vwCl (rg_W G rg1 I L) H1 := by
  rw [rg_push h1 h2]
  refine (hP.kept (fun k x hx => o1 x.1 (by rw [← hz]; exact (hP k x hx).lt))).app (fun k x hx => ?_)
  have hz : k < 1 := (List.getElem?_eq_some_iff.mp hx).1
  rw [show k = 0 by omega] at hx
  cases hx
  exact hc
def dv (fd : Nat × Nat) : Value := if fd.1 = 0 then .int 0 else if fd.1 = 1 then .long 0 else .null
theorem fv_dv {B : Nat} {I : II} {L : LL} {o k : Nat} {fd : Nat × Nat} (hI : I o = fun _ => 0) (hL : L o = fun _ => 0) (h : fd.1 ≠ 2) : rg_fv B I L o k fd = dv fd := by
  unfold rg_fv dv
  rw [hI, hL, if_neg h]
/-- making an object of class ci -/
def NC (own : String) (idx ci N : Nat) (fsD : List (Nat × Nat)) : Prop := ∃ (C : String) (T : u_T) (ty : Nat → FieldType), vwCl[ci]? = some (C, T, N) ∧ (∀ w ∈ u_ws C T N, w ∈ tblG) ∧ (∀ k, k < N → parseFieldDescriptor (T k).2.2.1 = some (ty k)) ∧ Cond.classLink own idx C ∈ tblG ∧ Cond.instantiable C N ∈ tblG ∧ Cond.initialized C ∈ tblG ∧ ∀ j, j < N → ∃ fd, fsD[j]? = some fd ∧ dv fd = defaultValue (ty j) ∧ fd.1 ≠ 2
/-- a call of a constructor -/
def IN (own : String) (idx : Nat) (y : MethodName) (cc : ByteArray) (nL : Nat) : Prop :=
  (y.cls ≠ "java/lang/invoke/MethodHandle" ∧ y.cls ≠ "java/lang/invoke/VarHandle" ∧ (parseMethodDescriptor y.desc).map (fun d => d.parameters.length) = some 0) ∧ nL ≤ 15 ∧ Cond.code y cc nL none ∈ tblG ∧ Cond.instanceMethod y ∈ tblG ∧ Cond.initialized y.cls ∈ tblG ∧ y.name = "<init>" ∧ (Cond.methodLink own idx y ∈ tblG ∨ ∃ host, Cond.methodLinkNest own idx y host ∈ xw)
/-- writing a final field with a reference -/
def FWR (own : String) (idx ci k : Nat) (ty : FieldType) : Prop := ∃ (C : String) (T : u_T) (N : Nat) (ty0 : Nat → FieldType), vwCl[ci]? = some (C, T, N) ∧ k < N ∧ (∀ w ∈ u_ws C T N, w ∈ tblG) ∧ (T k).1 = C ∧ Cond.fieldLink own idx C (T k).2.1 (T k).2.2.1 ∈ tblG ∧ (∀ k, k < N → parseFieldDescriptor (T k).2.2.1 = some (ty0 k)) ∧ (∀ a, a < N → ∀ b, b < N → a ≠ b → (T a).2.1 ≠ (T b).2.1) ∧ (T k).2.2.2 = true ∧ C = own ∧ parseFieldDescriptor (T k).2.2.1 = some ty ∧ (∀ v, narrow ty (.ref v) = .ref v) ∧ ∀ v, fits ty (.ref v) = true
theorem fvs_setR {B : Nat} {I : II} {L : LL} {o q t : Nat} {fs : List (Nat × Nat)} (hq : q < fs.length) : (rg_fvs B I L o 0 fs).set q (.ref (B + t)) = rg_fvs B I L o 0 (fs.set q (2, t)) := by
  apply List.ext_getElem?
  intro j
  by_cases h : j = q
  · subst h
    rw [List.getElem?_set_self (by rw [rg_fvs_len]; exact hq), rg_fvs_get, List.getElem?_set_self hq]
    rfl
  · rw [List.getElem?_set_ne (Ne.symm h), rg_fvs_get, rg_fvs_get, List.getElem?_set_ne (Ne.symm h)]
/-- a region whose object o isn't finished: f tells what all will be -/
def RO (K : Nat) (f : Nat → ShT) (o ci : Nat) (fs : List (Nat × Nat)) : RgT := (K, va_up f o (ci + 6, (f o).2.1, (f o).2.2.1, fs))
theorem RO_o {K : Nat} {f : Nat → ShT} {o ci : Nat} {fs : List (Nat × Nat)} (h : o < K) : Ob (RO K f o ci fs) o ci fs := ⟨h, _, _, va_up_self _ _ _⟩
theorem RO_end {K : Nat} {f : Nat → ShT} {o ci : Nat} {fs : List (Nat × Nat)} (h : Ob (K, f) o ci fs) : RO K f o ci fs = (K, f) := by
  obtain ⟨h1, n, tg, h2⟩ := h
  unfold RO
  congr 1
  funext q
  by_cases e : q = o
  · rw [e, va_up_self]
    have h3 : f o = (ci + 6, n, tg, fs) := h2
    rw [h3]
  · rw [va_up_ne _ _ e]
section JGROWS
variable {p : Program} {l : Launch} {e : Env} {R : Room} {s : State} {m : MethodId} {args : Array Value} {below : List Frame} {meth : Method} {c : Code} {Q : State → Prop} {cc : ByteArray} {nL : Nat} {own : String} {G : GT} {rg : RgT} {kc ks : Nat} {I : II} {L : LL} {pc : Nat} {lv : LV} {st : List Value}
theorem jg_iconst (C : Cx p s m args meth c cc nL own G) {n : Int} {v : Int32} (d : decode cc pc = .ok (.iconst n, 1)) (hv : Int32.ofInt n = v) (k : JG p l e R s m args below meth c Q nL G rg kc ks I L (pc + 1) lv (.int v :: st)) : JG p l e R s m args below meth c Q nL G rg kc ks I L pc lv st := fun H locs ls hz hk hP hS hl => lv_iconst C.1 C.2.1 d hv (k H locs ls hz hk hP hS hl)
theorem jg_bipush (C : Cx p s m args meth c cc nL own G) {n : Int} {v : Int32} (d : decode cc pc = .ok (.bipush n, 2)) (hv : (Int8.ofInt n).toInt32 = v) (k : JG p l e R s m args below meth c Q nL G rg kc ks I L (pc + 2) lv (.int v :: st)) : JG p l e R s m args below meth c Q nL G rg kc ks I L pc lv st := fun H locs ls hz hk hP hS hl => lv_bipush C.1 C.2.1 d hv (k H locs ls hz hk hP hS hl)
theorem jg_sipush (C : Cx p s m args meth c cc nL own G) {n : Int} {v : Int32} (d : decode cc pc = .ok (.sipush n, 3)) (hv : (Int16.ofInt n).toInt32 = v) (k : JG p l e R s m args below meth c Q nL G rg kc ks I L (pc + 3) lv (.int v :: st)) : JG p l e R s m args below meth c Q nL G rg kc ks I L pc lv st := fun H locs ls hz hk hP hS hl => lv_sipush C.1 C.2.1 d hv (k H locs ls hz hk hP hS hl)
theorem jg_lconst (C : Cx p s m args meth c cc nL own G) {n : Fin 2} {v : Int64} (d : decode cc pc = .ok (.lconst n, 1)) (hv : Int64.ofNat (n : Nat) = v) (k : JG p l e R s m args below meth c Q nL G rg kc ks I L (pc + 1) lv (.long v :: st)) : JG p l e R s m args below meth c Q nL G rg kc ks I L pc lv st := fun H locs ls hz hk hP hS hl => lv_lconst C.1 C.2.1 d hv (k H locs ls hz hk hP hS hl)
theorem jg_iload_n (C : Cx p s m args meth c cc nL own G) {n : Fin 4} {i : Nat} {x : Int32} (d : decode cc pc = .ok (.iload_n n, 1)) (hi : (n : Nat) = i) (hv : lv[i]? = some (some (.int x))) (k : JG p l e R s m args below meth c Q nL G rg kc ks I L (pc + 1) lv (.int x :: st)) : JG p l e R s m args below meth c Q nL G rg kc ks I L pc lv st := fun H locs ls hz hk hP hS hl => lv_iload_n C.1 C.2.1 d hi (lvg hl hv) (k H locs ls hz hk hP hS hl)
theorem jg_aload_n (C : Cx p s m args meth c cc nL own G) {n : Fin 4} {i : Nat} {x : Nat} (d : decode cc pc = .ok (.aload_n n, 1)) (hi : (n : Nat) = i) (hv : lv[i]? = some (some (.ref x))) (k : JG p l e R s m args below meth c Q nL G rg kc ks I L (pc + 1) lv (.ref x :: st)) : JG p l e R s m args below meth c Q nL G rg kc ks I L pc lv st := fun H locs ls hz hk hP hS hl => lv_aload_n C.1 C.2.1 d hi (lvg hl hv) (k H locs ls hz hk hP hS hl)
theorem jg_istore_n (C : Cx p s m args meth c cc nL own G) {n : Fin 4} {i : Nat} {x : Int32} (d : decode cc pc = .ok (.istore_n n, 1)) (hi : (n : Nat) = i) (hn : i < nL) (k : JG p l e R s m args below meth c Q nL G rg kc ks I L (pc + 1) (st1 lv i (.int x)) st) : JG p l e R s m args below meth c Q nL G rg kc ks I L pc lv (.int x :: st) := fun H locs ls hz hk hP hS hl => lv_istore_n C.1 C.2.1 d hi hl hn rfl (fun ls hl => k H locs ls hz hk hP hS (lvs_1 hl))
theorem jg_astore_n (C : Cx p s m args meth c cc nL own G) {n : Fin 4} {i : Nat} {x : Nat} (d : decode cc pc = .ok (.astore_n n, 1)) (hi : (n : Nat) = i) (hn : i < nL) (k : JG p l e R s m args below meth c Q nL G rg kc ks I L (pc + 1) (st1 lv i (.ref x)) st) : JG p l e R s m args below meth c Q nL G rg kc ks I L pc lv (.ref x :: st) := fun H locs ls hz hk hP hS hl => lv_astore_n C.1 C.2.1 d hi hl hn rfl (fun ls hl => k H locs ls hz hk hP hS (lvs_1 hl))
theorem jg_goto (C : Cx p s m args meth c cc nL own G) {off : Int} {tgt : Nat} (d : decode cc pc = .ok (.goto off, 3)) (ht : (pc : Int) + off = (tgt : Int)) (k : JG p l e R s m args below meth c Q nL G rg kc ks I L tgt lv st) : JG p l e R s m args below meth c Q nL G rg kc ks I L pc lv st := fun H locs ls hz hk hP hS hl => lv_goto C.1 C.2.1 d ht (k H locs ls hz hk hP hS hl)
theorem jg_icmp_ge (C : Cx p s m args meth c cc nL own G) {x y : Int32} {off : Int} {tgt : Nat} (d : decode cc pc = .ok (.if_icmp .ge off, 3)) (ht : (pc : Int) + off = (tgt : Int)) (kt : y ≤ x → JG p l e R s m args below meth c Q nL G rg kc ks I L tgt lv st) (kf : ¬ y ≤ x → JG p l e R s m args below meth c Q nL G rg kc ks I L (pc + 3) lv st) : JG p l e R s m args below meth c Q nL G rg kc ks I L pc lv (.int y :: .int x :: st) := fun H locs ls hz hk hP hS hl => lv_icmp_ge C.1 C.2.1 d ht (fun h => kt h H locs ls hz hk hP hS hl) (fun h => kf h H locs ls hz hk hP hS hl)
theorem jg_dup (C : Cx p s m args meth c cc nL own G) {va : Value} (d : decode cc pc = .ok (.dup, 1)) (hva : va.category = 1) (k : JG p l e R s m args below meth c Q nL G rg kc ks I L (pc + 1) lv (va :: va :: st)) : JG p l e R s m args below meth c Q nL G rg kc ks I L pc lv (va :: st) := fun H locs ls hz hk hP hS hl => lv_dup C.1 C.2.1 d hva (k H locs ls hz hk hP hS hl)
theorem jg_pop (C : Cx p s m args meth c cc nL own G) {va : Value} (d : decode cc pc = .ok (.pop, 1)) (hva : va.category = 1) (k : JG p l e R s m args below meth c Q nL G rg kc ks I L (pc + 1) lv st) : JG p l e R s m args below meth c Q nL G rg kc ks I L pc lv (va :: st) := fun H locs ls hz hk hP hS hl => lv_pop C.1 C.2.1 d hva (k H locs ls hz hk hP hS hl)
theorem jg_iinc (C : Cx p s m args meth c cc nL own G) {i : Nat} {n : Int} {x v : Int32} (d : decode cc pc = .ok (.iinc i n, 3)) (hi : lv[i]? = some (some (.int x))) (hv : x + Int32.ofInt n = v) (hn : i < nL) (k : JG p l e R s m args below meth c Q nL G rg kc ks I L (pc + 3) (st1 lv i (.int v)) st) : JG p l e R s m args below meth c Q nL G rg kc ks I L pc lv st := by
  intro H locs ls hz hk hP hS hl
  have hm := asl_mem lv 0 i _ hi
  rw [Nat.zero_add] at hm
  obtain ⟨q, hq⟩ := List.getElem?_of_mem hm
  exact lv_iinc C.1 C.2.1 d hl hq hv hn rfl (fun ls hl => k H locs ls hz hk hP hS (lvs_1 hl))
theorem jg_objInit (C : Cx p s m args meth c cc nL own G) {idx o : Nat} (hl0 : Cond.methodLink own idx Lib.objectInit ∈ tblG) (h1 : Cond.instanceMethod Lib.objectInit ∈ tblG) (h2 : Cond.code Lib.objectInit ⟨#[0xb1]⟩ 1 none ∈ tblG) (hf : 1 ≤ R.frames) (hw : 12 ≤ R.locals) (d : decode cc pc = .ok (.invokespecial idx, 3)) (k : JG p l e R s m args below meth c Q nL G rg kc ks I L (pc + 3) lv []) : JG p l e R s m args below meth c Q nL G rg kc ks I L pc lv [.ref (gB G + o)] := fun H locs ls hz hk hP hS hl => W.objInit (g := F0 m pc ls [.ref (gB G + o)]) (rest := []) C.1 C.2.1 C.2.2.2.1 (C.2.2.2.2.1 _ hl0) (C.2.2.2.2.1 _ h1) (C.2.2.2.2.1 _ h2) rfl (by rw [C.2.2.1]; exact hl.1) rfl d hf (by simpa using hw) (k H locs ls hz hk hP hS hl)
theorem jg_new (C : Cx p s m args meth c cc nL own G) {idx ci N n : Nat} {tg : Nat → Nat} {fsD : List (Nat × Nat)} (nc : NC own idx ci N fsD) {rg1 : RgT} (h1 : rg1.1 = rg.1 + 1) (h2 : ∀ q, q < rg.1 → rg1.2 q = rg.2 q) (h3 : rg1.2 rg.1 = (ci + 6, n, tg, fsD)) (hI : I rg.1 = fun _ => 0) (hL : L rg.1 = fun _ => 0) (hc1 : kc + 1 ≤ R.cells) (hc2 : ks + N ≤ R.slots) (d : decode cc pc = .ok (.new idx, 3)) (k : JG p l e R s m args below meth c Q nL G rg1 (kc + 1) (ks + N) I L (pc + 3) lv (.ref (gB G + rg.1) :: st)) : JG p l e R s m args below meth c Q nL G rg kc ks I L pc lv st := by
  intro H locs ls hz hk hP hS hl
  obtain ⟨Cn, T, ty, g1, g2, g3, g4, g5, g6, g7⟩ := nc
  have hKn := C.2.2.2.2.2.1.1 ci _ g1
  refine W.newcK C.1 C.2.1 C.2.2.2.1 (C.2.2.2.2.1 _ g4) (C.2.2.2.2.1 _ g5) (C.2.2.2.2.1 _ g6) rfl d hc1 hc2 hKn.2.1 hz fun H1 kC hkC e1 z1 o1 => ?_
  refine k H1 locs ls (by rw [z1, h1]; omega) (by omega) (P_push hP hz h1 h2 o1 ?_) ⟨Nat.le_trans hS.1 (by omega), fun x a b => (o1 x (by rw [← hz]; exact Nat.lt_of_lt_of_le a hS.1)).trans (hS.2.1 x a b), hS.2.2⟩ hl
  rw [rg_obj (rg := rg1) h3 rfl]
  refine ⟨_, g1, (u_born ty C.2.2.2.2.1 g2 hKn hkC e1 g3).to (fun j hj => ?_)⟩
  obtain ⟨fd, f1, f2, f3⟩ := g7 j hj
  rw [← f2]
  show dv fd = vp_V (rg_fvs (gB G) I L rg.1 0 fsD) j
  unfold vp_V
  rw [List.getD_eq_getElem?_getD, rg_fvs_get, f1]
  show dv fd = rg_fv (gB G) I L rg.1 (0 + j) fd
  rw [fv_dv hI hL f3]
theorem jg_newaI (C : Cx p s m args meth c cc nL own G) {N : Nat} {tg : Nat → Nat} {fs : List (Nat × Nat)} (harr : Cond.arrayClass .int ∈ tblG) {rg1 : RgT} (h1 : rg1.1 = rg.1 + 1) (h2 : ∀ q, q < rg.1 → rg1.2 q = rg.2 q) (h3 : rg1.2 rg.1 = (0, N, tg, fs)) (hI : I rg.1 = fun _ => 0) (hN : N < 2 ^ 20) (hc1 : kc + 1 ≤ R.cells) (hc2 : ks + N ≤ R.slots) (d : decode cc pc = .ok (.newarray .int, 2)) (k : JG p l e R s m args below meth c Q nL G rg1 (kc + 1) (ks + N) I L (pc + 2) lv (.ref (gB G + rg.1) :: st)) : JG p l e R s m args below meth c Q nL G rg kc ks I L pc lv (.int (nI N) :: st) := by
  intro H locs ls hz hk hP hS hl
  refine va_newaK (atype := .int) C.1 C.2.1 (C.2.2.2.2.1 _ harr) rfl d rfl (n := nI N) (by rw [Int32.lt_iff_toInt_lt, nI_toInt (by omega), i32_0]; omega) (nI_clamp (by omega)) (by show N * 4 ≤ 536870912; omega) hc1 hc2 hz fun H1 cA e1 z1 o1 hAr hNm => ?_
  have hcA : cA = G.2.1 0 := Option.some.inj (hNm.symm.trans (C.2.2.2.2.2.1.2 0 (G.2.1 0, .int) rfl).2)
  subst hcA
  refine k H1 locs ls (by rw [z1, h1]; omega) (by omega) (P_push hP hz h1 h2 o1 ?_) ⟨Nat.le_trans hS.1 (by omega), fun x a b => (o1 x (by rw [← hz]; exact Nat.lt_of_lt_of_le a hS.1)).trans (hS.2.1 x a b), hS.2.2⟩ hl
  rw [h3]
  show va_at G.1 vwCl (gB G + rg.1, .inl (G.2.1 0, N, .inl (I rg.1))) H1
  rw [hI]
  exact e1
theorem jg_newaJ (C : Cx p s m args meth c cc nL own G) {N : Nat} {tg : Nat → Nat} {fs : List (Nat × Nat)} (harr : Cond.arrayClass .long ∈ tblG) {rg1 : RgT} (h1 : rg1.1 = rg.1 + 1) (h2 : ∀ q, q < rg.1 → rg1.2 q = rg.2 q) (h3 : rg1.2 rg.1 = (1, N, tg, fs)) (hL : L rg.1 = fun _ => 0) (hN : N < 2 ^ 20) (hc1 : kc + 1 ≤ R.cells) (hc2 : ks + N ≤ R.slots) (d : decode cc pc = .ok (.newarray .long, 2)) (k : JG p l e R s m args below meth c Q nL G rg1 (kc + 1) (ks + N) I L (pc + 2) lv (.ref (gB G + rg.1) :: st)) : JG p l e R s m args below meth c Q nL G rg kc ks I L pc lv (.int (nI N) :: st) := by
  intro H locs ls hz hk hP hS hl
  refine va_newaK (atype := .long) C.1 C.2.1 (C.2.2.2.2.1 _ harr) rfl d rfl (n := nI N) (by rw [Int32.lt_iff_toInt_lt, nI_toInt (by omega), i32_0]; omega) (nI_clamp (by omega)) (by show N * 8 ≤ 536870912; omega) hc1 hc2 hz fun H1 cA e1 z1 o1 hAr hNm => ?_
  have hcA : cA = G.2.1 1 := Option.some.inj (hNm.symm.trans (C.2.2.2.2.2.1.2 1 (G.2.1 1, .long) rfl).2)
  subst hcA
  refine k H1 locs ls (by rw [z1, h1]; omega) (by omega) (P_push hP hz h1 h2 o1 ?_) ⟨Nat.le_trans hS.1 (by omega), fun x a b => (o1 x (by rw [← hz]; exact Nat.lt_of_lt_of_le a hS.1)).trans (hS.2.1 x a b), hS.2.2⟩ hl
  rw [h3]
  show va_at G.1 vwCl (gB G + rg.1, .inl (G.2.1 1, N, .inr (.inl (L rg.1)))) H1
  rw [hL]
  exact e1
theorem jg_newaZ (C : Cx p s m args meth c cc nL own G) {N : Nat} {tg : Nat → Nat} {fs : List (Nat × Nat)} (harr : Cond.arrayClass .boolean ∈ tblG) {rg1 : RgT} (h1 : rg1.1 = rg.1 + 1) (h2 : ∀ q, q < rg.1 → rg1.2 q = rg.2 q) (h3 : rg1.2 rg.1 = (2, N, tg, fs)) (hI : I rg.1 = fun _ => 0) (hN : N < 2 ^ 20) (hc1 : kc + 1 ≤ R.cells) (hc2 : ks + N ≤ R.slots) (d : decode cc pc = .ok (.newarray .boolean, 2)) (k : JG p l e R s m args below meth c Q nL G rg1 (kc + 1) (ks + N) I L (pc + 2) lv (.ref (gB G + rg.1) :: st)) : JG p l e R s m args below meth c Q nL G rg kc ks I L pc lv (.int (nI N) :: st) := by
  intro H locs ls hz hk hP hS hl
  refine va_newaK (atype := .boolean) C.1 C.2.1 (C.2.2.2.2.1 _ harr) rfl d rfl (n := nI N) (by rw [Int32.lt_iff_toInt_lt, nI_toInt (by omega), i32_0]; omega) (nI_clamp (by omega)) (by show N * 1 ≤ 536870912; omega) hc1 hc2 hz fun H1 cA e1 z1 o1 hAr hNm => ?_
  have hcA : cA = G.2.1 2 := Option.some.inj (hNm.symm.trans (C.2.2.2.2.2.1.2 2 (G.2.1 2, .boolean) rfl).2)
  subst hcA
  refine k H1 locs ls (by rw [z1, h1]; omega) (by omega) (P_push hP hz h1 h2 o1 ?_) ⟨Nat.le_trans hS.1 (by omega), fun x a b => (o1 x (by rw [← hz]; exact Nat.lt_of_lt_of_le a hS.1)).trans (hS.2.1 x a b), hS.2.2⟩ hl
  rw [h3]
  show va_at G.1 vwCl (gB G + rg.1, .inl (G.2.1 2, N, .inl (I rg.1))) H1
  rw [hI]
  exact e1
theorem jg_anew3 (C : Cx p s m args meth c cc nL own G) {idx N : Nat} {tg : Nat → Nat} {fs : List (Nat × Nat)} (hcl : Cond.classLink own idx RX2 ∈ tblG) (hov : Cond.arrayOver (.object RX2) ∈ xw) {rg1 : RgT} (h1 : rg1.1 = rg.1 + 1) (h2 : ∀ q, q < rg.1 → rg1.2 q = rg.2 q) (h3 : rg1.2 rg.1 = (3, N, tg, fs)) (htg : ∀ j, j < N → tg j = 0) (hN : N < 2 ^ 20) (hc1 : kc + 1 ≤ R.cells) (hc2 : ks + N ≤ R.slots) (d : decode cc pc = .ok (.anewarray idx, 3)) (k : JG p l e R s m args below meth c Q nL G rg1 (kc + 1) (ks + N) I L (pc + 3) lv (.ref (gB G + rg.1) :: st)) : JG p l e R s m args below meth c Q nL G rg kc ks I L pc lv (.int (nI N) :: st) := by
  intro H locs ls hz hk hP hS hl
  have hcn := nI_clamp (show N < 2 ^ 31 by omega)
  refine W.anew C.1 C.2.1 C.2.2.2.1 (C.2.2.2.2.1 _ hcl) (va_AO.use (C.2.2.2.2.2.2.2 _ hov)) rfl d rfl (n := nI N) (by rw [Int32.lt_iff_toInt_lt, nI_toInt (by omega), i32_0]; omega) (by rw [hcn]; omega) hc1 (by rw [hcn]; exact hc2) fun cA kA comp f1 f2 f3 f4 => ?_
  rw [hcn, hz]
  generalize hH1 : H.push ({ cls := cA, slots := Array.replicate N .null, vm := .none } : Cell) = H1
  have z1 : H1.size = gB G + rg.1 + 1 := by rw [← hH1, Array.size_push, hz]
  have e1 : H1[gB G + rg.1]? = some (arrV cA N (fun _ => .null)) := by rw [← hH1, ← hz, Array.getElem?_push_size, ← arrV_new]
  have o1 : ∀ q : Nat, q < gB G + rg.1 → H1[q]? = H[q]? := fun q hq => by rw [← hH1, Array.getElem?_push, if_neg (by omega)]
  have hcA : cA = G.2.1 3 := by
    obtain ⟨_, _, _, _, _, r4⟩ := (C.2.2.2.2.2.1.2 3 (G.2.1 3, .object RX2) rfl).2
    exact Option.some.inj (f1.symm.trans r4)
  subst hcA
  refine k H1 locs ls (by rw [z1, h1]; omega) (by omega) (P_push hP hz h1 h2 o1 ?_) ⟨Nat.le_trans hS.1 (by omega), fun x a b => (o1 x (by rw [← hz]; exact Nat.lt_of_lt_of_le a hS.1)).trans (hS.2.1 x a b), hS.2.2⟩ hl
  rw [h3]
  show H1[gB G + rg.1]? = some (arrV (G.2.1 3) N (fun j => va_rf (rg_tg (gB G) (tg j))))
  rw [e1]
  exact congrArg some (arrV_cong (fun j hj => by rw [htg j hj]; rfl))
theorem jg_anew4 (C : Cx p s m args meth c cc nL own G) {idx N : Nat} {tg : Nat → Nat} {fs : List (Nat × Nat)} (hcl : Cond.classLink own idx RX5 ∈ tblG) (hov : Cond.arrayOver (.object RX5) ∈ xw) {rg1 : RgT} (h1 : rg1.1 = rg.1 + 1) (h2 : ∀ q, q < rg.1 → rg1.2 q = rg.2 q) (h3 : rg1.2 rg.1 = (4, N, tg, fs)) (htg : ∀ j, j < N → tg j = 0) (hN : N < 2 ^ 20) (hc1 : kc + 1 ≤ R.cells) (hc2 : ks + N ≤ R.slots) (d : decode cc pc = .ok (.anewarray idx, 3)) (k : JG p l e R s m args below meth c Q nL G rg1 (kc + 1) (ks + N) I L (pc + 3) lv (.ref (gB G + rg.1) :: st)) : JG p l e R s m args below meth c Q nL G rg kc ks I L pc lv (.int (nI N) :: st) := by
  intro H locs ls hz hk hP hS hl
  have hcn := nI_clamp (show N < 2 ^ 31 by omega)
  refine W.anew C.1 C.2.1 C.2.2.2.1 (C.2.2.2.2.1 _ hcl) (va_AO.use (C.2.2.2.2.2.2.2 _ hov)) rfl d rfl (n := nI N) (by rw [Int32.lt_iff_toInt_lt, nI_toInt (by omega), i32_0]; omega) (by rw [hcn]; omega) hc1 (by rw [hcn]; exact hc2) fun cA kA comp f1 f2 f3 f4 => ?_
  rw [hcn, hz]
  generalize hH1 : H.push ({ cls := cA, slots := Array.replicate N .null, vm := .none } : Cell) = H1
  have z1 : H1.size = gB G + rg.1 + 1 := by rw [← hH1, Array.size_push, hz]
  have e1 : H1[gB G + rg.1]? = some (arrV cA N (fun _ => .null)) := by rw [← hH1, ← hz, Array.getElem?_push_size, ← arrV_new]
  have o1 : ∀ q : Nat, q < gB G + rg.1 → H1[q]? = H[q]? := fun q hq => by rw [← hH1, Array.getElem?_push, if_neg (by omega)]
  have hcA : cA = G.2.1 4 := by
    obtain ⟨_, _, _, _, _, r4⟩ := (C.2.2.2.2.2.1.2 4 (G.2.1 4, .object RX5) rfl).2
    exact Option.some.inj (f1.symm.trans r4)
  subst hcA
  refine k H1 locs ls (by rw [z1, h1]; omega) (by omega) (P_push hP hz h1 h2 o1 ?_) ⟨Nat.le_trans hS.1 (by omega), fun x a b => (o1 x (by rw [← hz]; exact Nat.lt_of_lt_of_le a hS.1)).trans (hS.2.1 x a b), hS.2.2⟩ hl
  rw [h3]
  show H1[gB G + rg.1]? = some (arrV (G.2.1 4) N (fun j => va_rf (rg_tg (gB G) (tg j))))
  rw [e1]
  exact congrArg some (arrV_cong (fun j hj => by rw [htg j hj]; rfl))
theorem jg_anew5 (C : Cx p s m args meth c cc nL own G) {idx N : Nat} {tg : Nat → Nat} {fs : List (Nat × Nat)} (hcl : Cond.classLink own idx RX1 ∈ tblG) (hov : Cond.arrayOver (.object RX1) ∈ xw) {rg1 : RgT} (h1 : rg1.1 = rg.1 + 1) (h2 : ∀ q, q < rg.1 → rg1.2 q = rg.2 q) (h3 : rg1.2 rg.1 = (5, N, tg, fs)) (htg : ∀ j, j < N → tg j = 0) (hN : N < 2 ^ 20) (hc1 : kc + 1 ≤ R.cells) (hc2 : ks + N ≤ R.slots) (d : decode cc pc = .ok (.anewarray idx, 3)) (k : JG p l e R s m args below meth c Q nL G rg1 (kc + 1) (ks + N) I L (pc + 3) lv (.ref (gB G + rg.1) :: st)) : JG p l e R s m args below meth c Q nL G rg kc ks I L pc lv (.int (nI N) :: st) := by
  intro H locs ls hz hk hP hS hl
  have hcn := nI_clamp (show N < 2 ^ 31 by omega)
  refine W.anew C.1 C.2.1 C.2.2.2.1 (C.2.2.2.2.1 _ hcl) (va_AO.use (C.2.2.2.2.2.2.2 _ hov)) rfl d rfl (n := nI N) (by rw [Int32.lt_iff_toInt_lt, nI_toInt (by omega), i32_0]; omega) (by rw [hcn]; omega) hc1 (by rw [hcn]; exact hc2) fun cA kA comp f1 f2 f3 f4 => ?_
  rw [hcn, hz]
  generalize hH1 : H.push ({ cls := cA, slots := Array.replicate N .null, vm := .none } : Cell) = H1
  have z1 : H1.size = gB G + rg.1 + 1 := by rw [← hH1, Array.size_push, hz]
  have e1 : H1[gB G + rg.1]? = some (arrV cA N (fun _ => .null)) := by rw [← hH1, ← hz, Array.getElem?_push_size, ← arrV_new]
  have o1 : ∀ q : Nat, q < gB G + rg.1 → H1[q]? = H[q]? := fun q hq => by rw [← hH1, Array.getElem?_push, if_neg (by omega)]
  have hcA : cA = G.2.1 5 := by
    obtain ⟨_, _, _, _, _, r4⟩ := (C.2.2.2.2.2.1.2 5 (G.2.1 5, .object RX1) rfl).2
    exact Option.some.inj (f1.symm.trans r4)
  subst hcA
  refine k H1 locs ls (by rw [z1, h1]; omega) (by omega) (P_push hP hz h1 h2 o1 ?_) ⟨Nat.le_trans hS.1 (by omega), fun x a b => (o1 x (by rw [← hz]; exact Nat.lt_of_lt_of_le a hS.1)).trans (hS.2.1 x a b), hS.2.2⟩ hl
  rw [h3]
  show H1[gB G + rg.1]? = some (arrV (G.2.1 5) N (fun j => va_rf (rg_tg (gB G) (tg j))))
  rw [e1]
  exact congrArg some (arrV_cong (fun j hj => by rw [htg j hj]; rfl))
theorem jg_putI (C : Cx p s m args meth c cc nL own G) {idx ci q z o : Nat} {fs : List (Nat × Nat)} {ty : FieldType} {v : Int32} (ob : Ob rg o ci fs) (fl : FW own idx ci q ty) (hq : fs[q]? = some (0, z)) (hn : narrow ty (.int v) = .int v) (hfit : fits ty (.int v) = true) (d : decode cc pc = .ok (.putfield idx, 3)) (k : JG p l e R s m args below meth c Q nL G rg kc ks (up2 I o q v) L (pc + 3) lv st) : JG p l e R s m args below meth c Q nL G rg kc ks I L pc lv (.int v :: .ref (gB G + o) :: st) := by
  intro H locs ls hz hk hP hS hl
  obtain ⟨ho, n0, tg0, hs⟩ := ob
  obtain ⟨Cn, T, N, ty0, h1, h2, h3, h4, h5, h6, h7, h8, h9⟩ := fl
  have he := rg_at (G := G) (I := I) (L := L) ho
  rw [rg_obj hs rfl] at he
  have hlen : q < (rg_fvs (gB G) I L o 0 fs).length := by rw [rg_fvs_len]; exact (List.getElem?_eq_some_iff.mp hq).1
  have hw : (rg_W G rg I L).set o (gB G + o, .inr (ci, (rg_fvs (gB G) I L o 0 fs).set q (.int v))) = rg_W G rg (up2 I o q v) L := by
    refine rg_set ho (fun w hw => ?_) (fun w hw => ?_) ?_
    · first | rfl | exact up2_ne _ hw
    · first | rfl | exact up2_ne _ hw
    · rw [rg_obj hs rfl, rg_fvs_set fs 0 q (Nat.zero_add q) hq]
  rcases h5 with h5 | ⟨host, h5⟩
  · exact va_put C.1 C.2.1 C.2.2.2.2.1 h3 ty0 h6 h7 C.2.2.2.1 C.2.2.2.2.2.1 hP rg_DB (S_re hS) o he h1 q h2 (C.2.2.2.2.1 _ h5) (by rw [h4]; exact fun _ z => z) h8 h9 hn hfit hlen d (fun H1 locs1 hP1 hD1 hS1 => W_sz (fun hsz => k H1 locs1 ls (by have := hS1.1; omega) (by have := hS1.1; omega) (by rw [hw] at hP1; exact hP1) (S_tr hS hS1) hl))
  · exact va_putN C.1 C.2.1 C.2.2.2.2.1 h3 ty0 h6 h7 C.2.2.2.1 C.2.2.2.2.2.1 hP rg_DB (S_re hS) o he h1 q h2 (va_Nw.use rfl (C.2.2.2.2.2.2.2 _ h5)) (by rw [h4]; exact fun _ z => z) h8 h9 hn hfit hlen d (fun H1 locs1 hP1 hD1 hS1 => W_sz (fun hsz => k H1 locs1 ls (by have := hS1.1; omega) (by have := hS1.1; omega) (by rw [hw] at hP1; exact hP1) (S_tr hS hS1) hl))
theorem jg_putL (C : Cx p s m args meth c cc nL own G) {idx ci q z o : Nat} {fs : List (Nat × Nat)} {ty : FieldType} {v : Int64} (ob : Ob rg o ci fs) (fl : FW own idx ci q ty) (hq : fs[q]? = some (1, z)) (hn : narrow ty (.long v) = .long v) (hfit : fits ty (.long v) = true) (d : decode cc pc = .ok (.putfield idx, 3)) (k : JG p l e R s m args below meth c Q nL G rg kc ks I (up2 L o q v) (pc + 3) lv st) : JG p l e R s m args below meth c Q nL G rg kc ks I L pc lv (.long v :: .ref (gB G + o) :: st) := by
  intro H locs ls hz hk hP hS hl
  obtain ⟨ho, n0, tg0, hs⟩ := ob
  obtain ⟨Cn, T, N, ty0, h1, h2, h3, h4, h5, h6, h7, h8, h9⟩ := fl
  have he := rg_at (G := G) (I := I) (L := L) ho
  rw [rg_obj hs rfl] at he
  have hlen : q < (rg_fvs (gB G) I L o 0 fs).length := by rw [rg_fvs_len]; exact (List.getElem?_eq_some_iff.mp hq).1
  have hw : (rg_W G rg I L).set o (gB G + o, .inr (ci, (rg_fvs (gB G) I L o 0 fs).set q (.long v))) = rg_W G rg I (up2 L o q v) := by
    refine rg_set ho (fun w hw => ?_) (fun w hw => ?_) ?_
    · first | rfl | exact up2_ne _ hw
    · first | rfl | exact up2_ne _ hw
    · rw [rg_obj hs rfl, rg_fvs_setL fs 0 q (Nat.zero_add q) hq]
  rcases h5 with h5 | ⟨host, h5⟩
  · exact va_put C.1 C.2.1 C.2.2.2.2.1 h3 ty0 h6 h7 C.2.2.2.1 C.2.2.2.2.2.1 hP rg_DB (S_re hS) o he h1 q h2 (C.2.2.2.2.1 _ h5) (by rw [h4]; exact fun _ z => z) h8 h9 hn hfit hlen d (fun H1 locs1 hP1 hD1 hS1 => W_sz (fun hsz => k H1 locs1 ls (by have := hS1.1; omega) (by have := hS1.1; omega) (by rw [hw] at hP1; exact hP1) (S_tr hS hS1) hl))
  · exact va_putN C.1 C.2.1 C.2.2.2.2.1 h3 ty0 h6 h7 C.2.2.2.1 C.2.2.2.2.2.1 hP rg_DB (S_re hS) o he h1 q h2 (va_Nw.use rfl (C.2.2.2.2.2.2.2 _ h5)) (by rw [h4]; exact fun _ z => z) h8 h9 hn hfit hlen d (fun H1 locs1 hP1 hD1 hS1 => W_sz (fun hsz => k H1 locs1 ls (by have := hS1.1; omega) (by have := hS1.1; omega) (by rw [hw] at hP1; exact hP1) (S_tr hS hS1) hl))
theorem jg_putR (C : Cx p s m args meth c cc nL own G) {K idx ci q o t : Nat} {f : Nat → ShT} {fs : List (Nat × Nat)} {ty : FieldType} (ho : o < K) (fl : FWR own idx ci q ty) (hq : q < fs.length) (hin : meth.name = "<init>") (d : decode cc pc = .ok (.putfield idx, 3)) (k : JG p l e R s m args below meth c Q nL G (RO K f o ci (fs.set q (2, t))) kc ks I L (pc + 3) lv st) : JG p l e R s m args below meth c Q nL G (RO K f o ci fs) kc ks I L pc lv (.ref (gB G + t) :: .ref (gB G + o) :: st) := by
  intro H locs ls hz hk hP hS hl
  obtain ⟨Cn, T, N, ty0, h1, h2, h3, h4, h5, h6, h7, h8, h9, h10, h11, h12⟩ := fl
  obtain ⟨ho2, n0, tg0, hs⟩ := RO_o (ci := ci) (fs := fs) (f := f) ho
  have he := rg_at (G := G) (I := I) (L := L) ho2
  rw [rg_obj hs rfl] at he
  have hw : (rg_W G (RO K f o ci fs) I L).set o (gB G + o, .inr (ci, (rg_fvs (gB G) I L o 0 fs).set q (.ref (gB G + t)))) = rg_W G (RO K f o ci (fs.set q (2, t))) I L := by
    apply List.ext_getElem?
    intro j
    by_cases hj : j = o
    · subst hj
      rw [List.getElem?_set_self (by simpa [rg_W] using ho2), rg_at (rg := RO K f j ci (fs.set q (2, t))) ho, rg_obj (va_up_self _ _ _) rfl, fvs_setR hq]
    · rw [List.getElem?_set_ne (Ne.symm hj)]
      by_cases hl2 : j < K
      · rw [rg_at (rg := RO K f o ci fs) hl2, rg_at (rg := RO K f o ci (fs.set q (2, t))) hl2]
        show some (gB G + j, rg_cell G I L j (va_up f o _ j)) = some (gB G + j, rg_cell G I L j (va_up f o _ j))
        rw [va_up_ne _ _ hj, va_up_ne _ _ hj]
      · rw [List.getElem?_eq_none (by have q := Nat.le_of_not_lt hl2; simpa [rg_W, RO] using q), List.getElem?_eq_none (by have q := Nat.le_of_not_lt hl2; simpa [rg_W, RO] using q)]
  exact va_putF C.1 C.2.1 C.2.2.2.2.1 h3 ty0 h6 h7 C.2.2.2.1 C.2.2.2.2.2.1 hP rg_DB (S_re hS) o he h1 q h2 (C.2.2.2.2.1 _ h5) (by rw [h4]; exact fun _ z => z) h8 hin (h4.trans h9) h10 (h11 _) (h12 _) (by rw [rg_fvs_len]; exact hq) d (fun H1 locs1 hP1 hD1 hS1 => W_sz (fun hsz => k H1 locs1 ls (by have := hS1.1; have hz2 : H.size = gB G + K := hz; show Array.size H1 = gB G + K; omega) (by have := hS1.1; omega) (by rw [hw] at hP1; exact hP1) (S_tr hS hS1) hl))
theorem jg_getR (C : Cx p s m args meth c cc nL own G) {idx ci q z o : Nat} {fs : List (Nat × Nat)} (ob : Ob rg o ci fs) (fl : FL own idx ci q) (hq : fs[q]? = some (2, z)) (d : decode cc pc = .ok (.getfield idx, 3)) (k : JG p l e R s m args below meth c Q nL G rg kc ks I L (pc + 3) lv (.ref (gB G + z) :: st)) : JG p l e R s m args below meth c Q nL G rg kc ks I L pc lv (.ref (gB G + o) :: st) := by
  intro H locs ls hz hk hP hS hl
  obtain ⟨ho, n0, tg0, hs⟩ := ob
  obtain ⟨Cn, T, N, h1, h2, h3, h4, h5⟩ := fl
  have he := rg_at (G := G) (I := I) (L := L) ho
  rw [rg_obj hs rfl] at he
  have hv : (rg_fvs (gB G) I L o 0 fs)[q]? = some (.ref (gB G + z)) := by rw [rg_fvs_get, hq, Nat.zero_add]; rfl
  rcases h5 with h5 | ⟨host, h5⟩
  · exact va_get C.1 C.2.1 C.2.2.2.2.1 h3 C.2.2.2.1 C.2.2.2.2.2.1 hP o he h1 q h2 (C.2.2.2.2.1 _ h5) (by rw [h4]; exact fun _ z => z) hv d (k H locs ls hz hk hP hS hl)
  · exact va_getN C.1 C.2.1 C.2.2.2.2.1 h3 C.2.2.2.1 C.2.2.2.2.2.1 hP o he h1 q h2 (va_Nw.use rfl (C.2.2.2.2.2.2.2 _ h5)) (by rw [h4]; exact fun _ z => z) hv d (k H locs ls hz hk hP hS hl)
theorem jg_ast3 (C : Cx p s m args meth c cc nL own G) {K a N i t : Nat} {f : Nat → ShT} {tg tg1 : Nat → Nat} {fs fv : List (Nat × Nat)} (ha : a < K) (hi : i < N) (hN : N < 2 ^ 20) (hv : Ob (K, va_up f a (3, N, tg, fs)) t 2 fv) (ht0 : t ≠ 0) (h1 : tg1 i = t) (h2 : ∀ j, j ≠ i → tg1 j = tg j) (d : decode cc pc = .ok (.aastore, 1)) (k : JG p l e R s m args below meth c Q nL G (K, va_up f a (3, N, tg1, fs)) kc ks I L (pc + 1) lv st) : JG p l e R s m args below meth c Q nL G (K, va_up f a (3, N, tg, fs)) kc ks I L pc lv (.ref (gB G + t) :: .int (nI i) :: .ref (gB G + a) :: st) := by
  intro H locs ls hz hk hP hS hl
  have hK : (a : Nat) < ((K, va_up f a (3, N, tg, fs)) : RgT).1 := ha
  have hcell : ∀ tg : Nat → Nat, rg_cell G I L a (3, N, tg, fs) = .inl (G.2.1 3, N, .inr (.inr (.inr (.inr (fun j => rg_tg (gB G) (tg j)))))) := fun tg => rfl
  have he : (rg_W G (K, va_up f a (3, N, tg, fs)) I L)[a]? = some (gB G + a, .inl (G.2.1 3, N, .inr (.inr (.inr (.inr (fun j => rg_tg (gB G) (tg j))))))) := by
    rw [rg_at hK, show ((K, va_up f a (3, N, tg, fs)) : RgT).2 a = (3, N, tg, fs) from va_up_self _ _ _, hcell]
  obtain ⟨ht, n0, tg0, hs⟩ := hv
  have he2 := rg_at (G := G) (I := I) (L := L) ht
  rw [rg_obj hs rfl] at he2
  have hcn := nI_clamp (show i < 2 ^ 31 by omega)
  have hw : (rg_W G (K, va_up f a (3, N, tg, fs)) I L).set a (gB G + a, .inl (G.2.1 3, N, .inr (.inr (.inr (.inr (va_up (fun j => rg_tg (gB G) (tg j)) (nI i).toNatClampNeg (some (gB G + t)))))))) = rg_W G (K, va_up f a (3, N, tg1, fs)) I L := by
    rw [hcn]
    apply List.ext_getElem?
    intro j
    by_cases hj : j = a
    · subst hj
      rw [List.getElem?_set_self (by have q := ha; simpa [rg_W] using q), rg_at (rg := (K, va_up f j (3, N, tg1, fs))) ha, show ((K, va_up f j (3, N, tg1, fs)) : RgT).2 j = (3, N, tg1, fs) from va_up_self _ _ _, hcell]
      congr 9
      funext x
      by_cases hx : x = i
      · rw [hx, va_up_self, h1]; unfold rg_tg; rw [if_neg ht0]
      · rw [va_up_ne _ _ hx, h2 x hx]
    · rw [List.getElem?_set_ne (Ne.symm hj)]
      by_cases hl2 : j < K
      · rw [rg_at (rg := (K, va_up f a (3, N, tg, fs))) hl2, rg_at (rg := (K, va_up f a (3, N, tg1, fs))) hl2]
        show some (gB G + j, rg_cell G I L j (va_up f a _ j)) = some (gB G + j, rg_cell G I L j (va_up f a _ j))
        rw [va_up_ne _ _ hj, va_up_ne _ _ hj]
      · rw [List.getElem?_eq_none (by have q := Nat.le_of_not_lt hl2; simpa [rg_W] using q), List.getElem?_eq_none (by have q := Nat.le_of_not_lt hl2; simpa [rg_W] using q)]
  exact va_astq C.1 C.2.1 C.2.2.2.2.2.1 hP rg_DB (S_re hS) a 3 t 2 (r := (RX2, TX2, 2)) he rfl he2 rfl (vp_in_nI hi (by omega)) d (fun H1 locs1 hP1 hD1 hS1 => W_sz (fun hsz => k H1 locs1 ls (by have := hS1.1; have hz2 : H.size = gB G + K := hz; show Array.size H1 = gB G + K; omega) (by have := hS1.1; omega) (by rw [hw] at hP1; exact hP1) (S_tr hS hS1) hl))
theorem jg_ast4 (C : Cx p s m args meth c cc nL own G) {K a N i t : Nat} {f : Nat → ShT} {tg tg1 : Nat → Nat} {fs fv : List (Nat × Nat)} (ha : a < K) (hi : i < N) (hN : N < 2 ^ 20) (hv : Ob (K, va_up f a (4, N, tg, fs)) t 5 fv) (ht0 : t ≠ 0) (h1 : tg1 i = t) (h2 : ∀ j, j ≠ i → tg1 j = tg j) (d : decode cc pc = .ok (.aastore, 1)) (k : JG p l e R s m args below meth c Q nL G (K, va_up f a (4, N, tg1, fs)) kc ks I L (pc + 1) lv st) : JG p l e R s m args below meth c Q nL G (K, va_up f a (4, N, tg, fs)) kc ks I L pc lv (.ref (gB G + t) :: .int (nI i) :: .ref (gB G + a) :: st) := by
  intro H locs ls hz hk hP hS hl
  have hK : (a : Nat) < ((K, va_up f a (4, N, tg, fs)) : RgT).1 := ha
  have hcell : ∀ tg : Nat → Nat, rg_cell G I L a (4, N, tg, fs) = .inl (G.2.1 4, N, .inr (.inr (.inr (.inr (fun j => rg_tg (gB G) (tg j)))))) := fun tg => rfl
  have he : (rg_W G (K, va_up f a (4, N, tg, fs)) I L)[a]? = some (gB G + a, .inl (G.2.1 4, N, .inr (.inr (.inr (.inr (fun j => rg_tg (gB G) (tg j))))))) := by
    rw [rg_at hK, show ((K, va_up f a (4, N, tg, fs)) : RgT).2 a = (4, N, tg, fs) from va_up_self _ _ _, hcell]
  obtain ⟨ht, n0, tg0, hs⟩ := hv
  have he2 := rg_at (G := G) (I := I) (L := L) ht
  rw [rg_obj hs rfl] at he2
  have hcn := nI_clamp (show i < 2 ^ 31 by omega)
  have hw : (rg_W G (K, va_up f a (4, N, tg, fs)) I L).set a (gB G + a, .inl (G.2.1 4, N, .inr (.inr (.inr (.inr (va_up (fun j => rg_tg (gB G) (tg j)) (nI i).toNatClampNeg (some (gB G + t)))))))) = rg_W G (K, va_up f a (4, N, tg1, fs)) I L := by
    rw [hcn]
    apply List.ext_getElem?
    intro j
    by_cases hj : j = a
    · subst hj
      rw [List.getElem?_set_self (by have q := ha; simpa [rg_W] using q), rg_at (rg := (K, va_up f j (4, N, tg1, fs))) ha, show ((K, va_up f j (4, N, tg1, fs)) : RgT).2 j = (4, N, tg1, fs) from va_up_self _ _ _, hcell]
      congr 9
      funext x
      by_cases hx : x = i
      · rw [hx, va_up_self, h1]; unfold rg_tg; rw [if_neg ht0]
      · rw [va_up_ne _ _ hx, h2 x hx]
    · rw [List.getElem?_set_ne (Ne.symm hj)]
      by_cases hl2 : j < K
      · rw [rg_at (rg := (K, va_up f a (4, N, tg, fs))) hl2, rg_at (rg := (K, va_up f a (4, N, tg1, fs))) hl2]
        show some (gB G + j, rg_cell G I L j (va_up f a _ j)) = some (gB G + j, rg_cell G I L j (va_up f a _ j))
        rw [va_up_ne _ _ hj, va_up_ne _ _ hj]
      · rw [List.getElem?_eq_none (by have q := Nat.le_of_not_lt hl2; simpa [rg_W] using q), List.getElem?_eq_none (by have q := Nat.le_of_not_lt hl2; simpa [rg_W] using q)]
  exact va_astq C.1 C.2.1 C.2.2.2.2.2.1 hP rg_DB (S_re hS) a 4 t 5 (r := (RX5, TX5, 3)) he rfl he2 rfl (vp_in_nI hi (by omega)) d (fun H1 locs1 hP1 hD1 hS1 => W_sz (fun hsz => k H1 locs1 ls (by have := hS1.1; have hz2 : H.size = gB G + K := hz; show Array.size H1 = gB G + K; omega) (by have := hS1.1; omega) (by rw [hw] at hP1; exact hP1) (S_tr hS hS1) hl))
theorem jg_ast5 (C : Cx p s m args meth c cc nL own G) {K a N i t : Nat} {f : Nat → ShT} {tg tg1 : Nat → Nat} {fs fv : List (Nat × Nat)} (ha : a < K) (hi : i < N) (hN : N < 2 ^ 20) (hv : Ob (K, va_up f a (5, N, tg, fs)) t 1 fv) (ht0 : t ≠ 0) (h1 : tg1 i = t) (h2 : ∀ j, j ≠ i → tg1 j = tg j) (d : decode cc pc = .ok (.aastore, 1)) (k : JG p l e R s m args below meth c Q nL G (K, va_up f a (5, N, tg1, fs)) kc ks I L (pc + 1) lv st) : JG p l e R s m args below meth c Q nL G (K, va_up f a (5, N, tg, fs)) kc ks I L pc lv (.ref (gB G + t) :: .int (nI i) :: .ref (gB G + a) :: st) := by
  intro H locs ls hz hk hP hS hl
  have hK : (a : Nat) < ((K, va_up f a (5, N, tg, fs)) : RgT).1 := ha
  have hcell : ∀ tg : Nat → Nat, rg_cell G I L a (5, N, tg, fs) = .inl (G.2.1 5, N, .inr (.inr (.inr (.inr (fun j => rg_tg (gB G) (tg j)))))) := fun tg => rfl
  have he : (rg_W G (K, va_up f a (5, N, tg, fs)) I L)[a]? = some (gB G + a, .inl (G.2.1 5, N, .inr (.inr (.inr (.inr (fun j => rg_tg (gB G) (tg j))))))) := by
    rw [rg_at hK, show ((K, va_up f a (5, N, tg, fs)) : RgT).2 a = (5, N, tg, fs) from va_up_self _ _ _, hcell]
  obtain ⟨ht, n0, tg0, hs⟩ := hv
  have he2 := rg_at (G := G) (I := I) (L := L) ht
  rw [rg_obj hs rfl] at he2
  have hcn := nI_clamp (show i < 2 ^ 31 by omega)
  have hw : (rg_W G (K, va_up f a (5, N, tg, fs)) I L).set a (gB G + a, .inl (G.2.1 5, N, .inr (.inr (.inr (.inr (va_up (fun j => rg_tg (gB G) (tg j)) (nI i).toNatClampNeg (some (gB G + t)))))))) = rg_W G (K, va_up f a (5, N, tg1, fs)) I L := by
    rw [hcn]
    apply List.ext_getElem?
    intro j
    by_cases hj : j = a
    · subst hj
      rw [List.getElem?_set_self (by have q := ha; simpa [rg_W] using q), rg_at (rg := (K, va_up f j (5, N, tg1, fs))) ha, show ((K, va_up f j (5, N, tg1, fs)) : RgT).2 j = (5, N, tg1, fs) from va_up_self _ _ _, hcell]
      congr 9
      funext x
      by_cases hx : x = i
      · rw [hx, va_up_self, h1]; unfold rg_tg; rw [if_neg ht0]
      · rw [va_up_ne _ _ hx, h2 x hx]
    · rw [List.getElem?_set_ne (Ne.symm hj)]
      by_cases hl2 : j < K
      · rw [rg_at (rg := (K, va_up f a (5, N, tg, fs))) hl2, rg_at (rg := (K, va_up f a (5, N, tg1, fs))) hl2]
        show some (gB G + j, rg_cell G I L j (va_up f a _ j)) = some (gB G + j, rg_cell G I L j (va_up f a _ j))
        rw [va_up_ne _ _ hj, va_up_ne _ _ hj]
      · rw [List.getElem?_eq_none (by have q := Nat.le_of_not_lt hl2; simpa [rg_W] using q), List.getElem?_eq_none (by have q := Nat.le_of_not_lt hl2; simpa [rg_W] using q)]
  exact va_astq C.1 C.2.1 C.2.2.2.2.2.1 hP rg_DB (S_re hS) a 5 t 1 (r := (RX1, TX1, 1)) he rfl he2 rfl (vp_in_nI hi (by omega)) d (fun H1 locs1 hP1 hD1 hS1 => W_sz (fun hsz => k H1 locs1 ls (by have := hS1.1; have hz2 : H.size = gB G + K := hz; show Array.size H1 = gB G + K; omega) (by have := hS1.1; omega) (by rw [hw] at hP1; exact hP1) (S_tr hS hS1) hl))
end JGROWS
def rmN (d mc ms : Nat) : Room := { frames := d, cells := mc, slots := ms, locals := 34 * d }
def preG (G : GT) (rg : RgT) (I : II) (L : LL) (U : State) : Prop := U.heap.size = gB G + rg.1 ∧ preR G rg I L U
def QN (G : GT) (K0 mc : Nat) (post : RgT → II → LL → Prop) : Array Value → State → Outcome → State → Prop := va_Qv (fun (u : RgT × II × LL) => post u.1 u.2.1 u.2.2) (fun u t => u.1.1 = K0 + mc ∧ preG G u.1 u.2.1 u.2.2 t) (GB G)
def QNR (G : GT) (K0 mc : Nat) (post : Nat → RgT → II → LL → Prop) : Array Value → State → Outcome → State → Prop := va_Qr (fun (u : Nat × RgT × II × LL) => post u.1 u.2.1 u.2.2.1 u.2.2.2) (fun u a t => a = gB G + u.1 ∧ u.2.1.1 = K0 + mc ∧ preG G u.2.1 u.2.2.1 u.2.2.2 t) (GB G)
def CtN (l : Launch) (y : MethodName) (cc : ByteArray) (nL d mc ms : Nat) (G : GT) (rg : RgT) (I : II) (L : LL) (av : List Value) (post : RgT → II → LL → Prop) : Prop := Met l y (wsOf y cc nL none) (rmN d mc ms) (va_Pc av (preG G rg I L)) (QN G rg.1 mc post) mc ms (GB G)
def CtM (l : Launch) (y : MethodName) (cc : ByteArray) (nL : Nat) (ret : Option FieldType) (d mc ms : Nat) (G : GT) (rg : RgT) (I : II) (L : LL) (av : List Value) (post : Nat → RgT → II → LL → Prop) : Prop := Met l y (wsOf y cc nL ret) (rmN d mc ms) (va_Pc av (preG G rg I L)) (QNR G rg.1 mc post) mc ms (GB G)
theorem preG_blind {G : GT} {rg : RgT} {I : II} {L : LL} {av : List Value} : FrameBlind (va_Pc av (preG G rg I L)) := fun a U g mk q => ⟨q.1, q.2.1, q.2.2.1, va_K.moved (u := U) (U := U.calling g mk a) (Vm.Alike.refl U.vm) q.2.2.2.1, NW.same (u := U) (U := U.calling g mk a) rfl q.2.2.2.2⟩
theorem ctN_of {l : Launch} {y : MethodName} {cc : ByteArray} {nL d mc ms : Nat} {G : GT} {rg : RgT} {I : II} {L : LL} {av : List Value} {post : RgT → II → LL → Prop} (lv : LV) (hlv : asl 0 lv = lv_args 0 av) (hlen : (lg_sl av).length ≤ nL) (hy : plainName y.cls = true) (hyn : y.name = "<init>")
    (body : ∀ (p : Program) (e : Env) (s : State) (m : MethodId) (args : Array Value) (below : List Frame) (meth : Method) (c : Code), Cx p s m args meth c cc nL y.cls G → meth.sig.returnType = none → meth.name = "<init>" → s.heap.size = gB G + rg.1 → JG p l e (rmN d mc ms) s m args below meth c (MQ below (QN G rg.1 mc post) args s mc ms (GB G)) nL G rg 0 0 I L 0 lv []) : CtN l y cc nL d mc ms G rg I L av post := by
  refine Met.ofW (cc := cc) (maxL := nL) (ret := none) hy rfl ?_
  intro p e s m args below meth c s₁ B hml hv
  obtain ⟨rfl, hsz, hP, hK, hNW⟩ := hv
  have hts : ∀ w ∈ wsOf y cc nL none, w.before av.toArray s = true := atoms_spec (ws := wsOf y cc nL none) B.pre
  have hown : s.vm.findClass y.cls = some m.cls := findClass_of_methodNamed B.named
  have hin : meth.name = "<init>" := (name_of_methodNamed B.named B.method).1.trans hyn
  have hl := lv_entry av (n := nL) hlen
  rw [lg_entry_eq]
  refine body p e s m _ below meth c ⟨B.exec, B.bytes, hml, hown, fun w hw => hts w (List.mem_cons_of_mem _ hw), hK, B.notSynchronized, hNW⟩ B.returns hin hsz s.heap [] _ hsz rfl hP va_S.rf ?_
  rw [hlv]
  exact hl
theorem ctM_of {l : Launch} {y : MethodName} {cc : ByteArray} {nL d mc ms : Nat} {ret : Option FieldType} {G : GT} {rg : RgT} {I : II} {L : LL} {av : List Value} {post : Nat → RgT → II → LL → Prop} (lv : LV) (hlv : asl 0 lv = lv_args 0 av) (hlen : (lg_sl av).length ≤ nL) (hy : plainName y.cls = true)
    (body : ∀ (p : Program) (e : Env) (s : State) (m : MethodId) (args : Array Value) (below : List Frame) (meth : Method) (c : Code), Cx p s m args meth c cc nL y.cls G → meth.sig.returnType = ret → s.heap.size = gB G + rg.1 → JG p l e (rmN d mc ms) s m args below meth c (MQ below (QNR G rg.1 mc post) args s mc ms (GB G)) nL G rg 0 0 I L 0 lv []) : CtM l y cc nL ret d mc ms G rg I L av post := by
  refine Met.ofW (cc := cc) (maxL := nL) (ret := ret) hy rfl ?_
  intro p e s m args below meth c s₁ B hml hv
  obtain ⟨rfl, hsz, hP, hK, hNW⟩ := hv
  have hts : ∀ w ∈ wsOf y cc nL ret, w.before av.toArray s = true := atoms_spec (ws := wsOf y cc nL ret) B.pre
  have hown : s.vm.findClass y.cls = some m.cls := findClass_of_methodNamed B.named
  have hl := lv_entry av (n := nL) hlen
  rw [lg_entry_eq]
  refine body p e s m _ below meth c ⟨B.exec, B.bytes, hml, hown, fun w hw => hts w (List.mem_cons_of_mem _ hw), hK, B.notSynchronized, hNW⟩ B.returns hsz s.heap [] _ hsz rfl hP va_S.rf ?_
  rw [hlv]
  exact hl
section JGCALLS
variable {p : Program} {l : Launch} {e : Env} {R : Room} {s : State} {m : MethodId} {args : Array Value} {below : List Frame} {meth : Method} {c : Code} {Q : State → Prop} {cc : ByteArray} {nL : Nat} {own : String} {G : GT} {rg : RgT} {kc ks : Nat} {I : II} {L : LL} {pc : Nat} {lv : LV} {st rest : List Value}
theorem jg_vret (C : Cx p s m args meth c cc nL own G) {K0 : Nat} {post : RgT → II → LL → Prop} (hr : meth.sig.returnType = none) (hs0 : s.heap.size = gB G + K0) (d : decode cc pc = .ok (.return_, 1)) (hp : post rg I L) : JG p l e R s m args below meth c (MQ below (QN G K0 kc post) args s kc ks (GB G)) nL G rg kc ks I L pc lv [] := fun H locs ls hz hk hP hS hl => W.vret C.1 C.2.1 hr (fun t ht hW => ⟨⟨(rg, I, L), rfl, hp, by show rg.1 = K0 + kc; omega, by rw [ht]; exact hz, by rw [ht]; exact hP, va_K.moved hW.alike C.2.2.2.2.2.1, NW.warm hW C.2.2.2.2.2.2.2⟩, hS.F ht⟩) hS.2.2 d C.2.2.2.2.2.2.1
theorem jg_aret (C : Cx p s m args meth c cc nL own G) {K0 v : Nat} {rt : FieldType} {post : Nat → RgT → II → LL → Prop} (hr : meth.sig.returnType = some rt) (hrt : (∃ n, rt = .object n) ∨ ∃ t, rt = .array t) (hs0 : s.heap.size = gB G + K0) (d : decode cc pc = .ok (.areturn, 1)) (hp : post v rg I L) : JG p l e R s m args below meth c (MQ below (QNR G K0 kc post) args s kc ks (GB G)) nL G rg kc ks I L pc lv [.ref (gB G + v)] := fun H locs ls hz hk hP hS hl => W.aret C.1 C.2.1 hr hrt (Or.inr ⟨_, rfl⟩) (fun t ht hW => ⟨⟨(v, rg, I, L), gB G + v, rfl, hp, rfl, by show rg.1 = K0 + kc; omega, by rw [ht]; exact hz, by rw [ht]; exact hP, va_K.moved hW.alike C.2.2.2.2.2.1, NW.warm hW C.2.2.2.2.2.2.2⟩, hS.F ht⟩) hS.2.2 d C.2.2.2.2.2.2.1
theorem jg_init (C : Cx p s m args meth c cc nL own G) {idx d mc ms o nb : Nat} {y : MethodName} {cb : ByteArray} {post : RgT → II → LL → Prop} (vc : IN own idx y cb nb) (hM : CtN l y cb nb d mc ms G rg I L [.ref (gB G + o)] post) (hR : d + 1 ≤ R.frames ∧ 34 * d + 34 ≤ R.locals) (hW : (rest.map fun v => v.category).sum ≤ 8) (hr : kc + mc ≤ R.cells ∧ ks + ms ≤ R.slots) (dd : decode cc pc = .ok (.invokespecial idx, 3)) (kk : ∀ (rg1 : RgT) (I1 : II) (L1 : LL), post rg1 I1 L1 → JG p l e R s m args below meth c Q nL G rg1 (kc + mc) (ks + ms) I1 L1 (pc + 3) lv rest) : JG p l e R s m args below meth c Q nL G rg kc ks I L pc lv (.ref (gB G + o) :: rest) := by
  intro H locs ls hz hk hP hS hl
  obtain ⟨hx, hb, hml, hown, hts, hK, hlk, hNW⟩ := C
  obtain ⟨h2, h3, h4, h5, h7, hyn, h8⟩ := vc
  have hpre : PreS s H (va_Pc [.ref (gB G + o)] (preG G rg I L)) [.ref (gB G + o)] := ⟨preG_blind, fun U hU hW => ⟨rfl, by rw [hU]; exact hz, by rw [hU]; exact hP, va_K.moved hW.alike hK, hNW.warm hW⟩⟩
  have hroom : (rmN d mc ms).frames + 1 ≤ R.frames ∧ 8 + (nb + 11) + (rmN d mc ms).locals ≤ R.locals := ⟨hR.1, by show 8 + (nb + 11) + 34 * d ≤ R.locals; omega⟩
  have hin : (Cond.instanceMethod y).before args s = true := hts _ h5
  have hA0 : ∀ q, q < H.size → GB G q → GB G q := fun _ _ z => z
  have hA1 : ∀ q, GB G q → GB G q := fun _ z => z
  rcases h8 with h8 | ⟨host, h8⟩
  · exact va_callv (va_runI (As := []) (rest := rest) ⟨hx, hb, hml, hown, hts⟩ hM ⟨callB_of 0 hts (tbl_in h4) rfl rfl rfl (hts _ h7) (hts _ h8) h2 hroom, hyn, hin⟩ hpre rfl rfl hl.1 rfl (lv_room hW) dd hr) hS hA0 hA1 (fun u t H1 locs1 ht hvm hp hb _ _ hS1 => by obtain ⟨rg1, I1, L1⟩ := u; obtain ⟨hb0, hb1, hb2, hb3, hb4⟩ := hb; rw [ht] at hb1 hb2; have hb0 : rg1.1 = rg.1 + mc := hb0; exact kk rg1 I1 L1 hp H1 locs1 ls hb1 (by have hb1 : Array.size H1 = gB G + rg1.1 := hb1; omega) hb2 hS1 hl)
  · exact va_callv (va_runIN (As := []) (rest := rest) (host := host) ⟨hx, hb, hml, hown, hts⟩ hM ⟨va_cnB 0 hts (tbl_in h4) rfl rfl rfl (hNW _ h8) (hts _ h7) h2 hroom, hyn, hin⟩ hpre rfl rfl hl.1 rfl (lv_room hW) dd hr) hS hA0 hA1 (fun u t H1 locs1 ht hvm hp hb _ _ hS1 => by obtain ⟨rg1, I1, L1⟩ := u; obtain ⟨hb0, hb1, hb2, hb3, hb4⟩ := hb; rw [ht] at hb1 hb2; have hb0 : rg1.1 = rg.1 + mc := hb0; exact kk rg1 I1 L1 hp H1 locs1 ls hb1 (by have hb1 : Array.size H1 = gB G + rg1.1 := hb1; omega) hb2 hS1 hl)
theorem jg_csM (C : Cx p s m args meth c cc nL own G) {As : List Value} {idx n d mc ms nb : Nat} {y : MethodName} {cb : ByteArray} {ret : Option FieldType} {post : Nat → RgT → II → LL → Prop} (vc : SC own idx y cb nb ret n) (hM : CtM l y cb nb ret d mc ms G rg I L As post) (hR : d + 1 ≤ R.frames ∧ 34 * d + 34 ≤ R.locals) (hn : As.length = n) (hst : st = As.reverse ++ rest) (hW : (rest.map fun v => v.category).sum ≤ 8) (hr : kc + mc ≤ R.cells ∧ ks + ms ≤ R.slots) (dd : decode cc pc = .ok (.invokestatic idx, 3)) (kk : ∀ (v : Nat) (rg1 : RgT) (I1 : II) (L1 : LL), post v rg1 I1 L1 → JG p l e R s m args below meth c Q nL G rg1 (kc + mc) (ks + ms) I1 L1 (pc + 3) lv (.ref (gB G + v) :: rest)) : JG p l e R s m args below meth c Q nL G rg kc ks I L pc lv st := by
  intro H locs ls hz hk hP hS hl
  obtain ⟨hx, hb, hml, hown, hts, hK, hlk, hNW⟩ := C
  obtain ⟨h2, h3, h4, h5, h7, h8⟩ := vc
  have hpre : PreS s H (va_Pc As (preG G rg I L)) As := ⟨preG_blind, fun U hU hW => ⟨rfl, by rw [hU]; exact hz, by rw [hU]; exact hP, va_K.moved hW.alike hK, hNW.warm hW⟩⟩
  have hroom : (rmN d mc ms).frames + 1 ≤ R.frames ∧ 8 + (nb + 11) + (rmN d mc ms).locals ≤ R.locals := ⟨hR.1, by show 8 + (nb + 11) + 34 * d ≤ R.locals; omega⟩
  have hin : (Cond.static y).before args s = true := hts _ h5
  have hA0 : ∀ q, q < H.size → GB G q → GB G q := fun _ _ z => z
  have hA1 : ∀ q, GB G q → GB G q := fun _ z => z
  rcases h8 with h8 | ⟨host, h8⟩
  · exact va_callr (va_runS (As := As) (rest := rest) ⟨hx, hb, hml, hown, hts⟩ hM ⟨callB_of n hts (tbl_in h4) rfl rfl rfl (hts _ h7) (hts _ h8) h2 hroom, hin⟩ hpre rfl hn hl.1 hst (lv_room hW) dd hr) hS hA0 hA1 (fun u ra t H1 locs1 ht hvm hp hb _ _ hS1 => by obtain ⟨v, rg1, I1, L1⟩ := u; obtain ⟨hba, hb0, hb1, hb2, hb3, hb4⟩ := hb; rw [ht] at hb1 hb2; have hb0 : rg1.1 = rg.1 + mc := hb0; have hba : ra = gB G + v := hba; subst hba; exact kk v rg1 I1 L1 hp H1 locs1 ls hb1 (by have hb1 : Array.size H1 = gB G + rg1.1 := hb1; omega) hb2 hS1 hl)
  · exact va_callr (va_runSN (As := As) (rest := rest) (host := host) ⟨hx, hb, hml, hown, hts⟩ hM ⟨va_cnB n hts (tbl_in h4) rfl rfl rfl (hNW _ h8) (hts _ h7) h2 hroom, hin, trivial⟩ hpre rfl hn hl.1 hst (lv_room hW) dd hr) hS hA0 hA1 (fun u ra t H1 locs1 ht hvm hp hb _ _ hS1 => by obtain ⟨v, rg1, I1, L1⟩ := u; obtain ⟨hba, hb0, hb1, hb2, hb3, hb4⟩ := hb; rw [ht] at hb1 hb2; have hb0 : rg1.1 = rg.1 + mc := hb0; have hba : ra = gB G + v := hba; subst hba; exact kk v rg1 I1 L1 hp H1 locs1 ls hb1 (by have hb1 : Array.size H1 = gB G + rg1.1 := hb1; omega) hb2 hS1 hl)
theorem jg_cvI (C : Cx p s m args meth c cc nL own G) {As : List Value} {idx ci n d o nb : Nat} {y : MethodName} {cb : ByteArray} {ret : Option FieldType} {h : ShT} {post : Int32 → II → LL → Prop} (vc : VC own idx ci y cb nb ret n) (hM : CtI l y cb nb ret d G rg I L (.ref (gB G + o) :: As) post) (hR : d + 1 ≤ R.frames ∧ 34 * d + 34 ≤ R.locals) (ho : o < rg.1) (hs : rg.2 o = h) (hc : h.1 = ci + 6) (hn : As.length = n) (hst : st = As.reverse ++ .ref (gB G + o) :: rest) (hW : (rest.map fun v => v.category).sum ≤ 8) (hr : kc ≤ R.cells ∧ ks ≤ R.slots) (dd : decode cc pc = .ok (.invokevirtual idx, 3)) (kk : ∀ (r : Int32) (I1 : II) (L1 : LL), post r I1 L1 → JG p l e R s m args below meth c Q nL G rg kc ks I1 L1 (pc + 3) lv (.int r :: rest)) : JG p l e R s m args below meth c Q nL G rg kc ks I L pc lv st := by
  intro H locs ls hz hk hP hS hl
  obtain ⟨hx, hb, hml, hown, hts, hK, hlk, hNW⟩ := C
  obtain ⟨T, N, h1, h2, h3, h4, h5, h6, h7, h8⟩ := vc
  have he := rg_at (G := G) (I := I) (L := L) ho
  rw [rg_obj hs hc] at he
  have hrec := va_recv hK hP h1 he
  have hpre : PreV s H y.cls (gB G + o) (va_Pc (.ref (gB G + o) :: As) (preR G rg I L)) As := ⟨preR_blind, hrec, fun U hU hW => ⟨rfl, by rw [hU]; exact hP, va_K.moved hW.alike hK, hNW.warm hW⟩⟩
  have hroom : (rmD d).frames + 1 ≤ R.frames ∧ 8 + (nb + 11) + (rmD d).locals ≤ R.locals := ⟨hR.1, by show 8 + (nb + 11) + 34 * d ≤ R.locals; omega⟩
  have hin : (Cond.instanceMethod y).before args s = true := hts _ h5
  have hse : (Cond.selects y.cls y y).before args s = true := hts _ h6
  have hA0 : ∀ q, q < H.size → rg_A G rg q → GB G q := fun _ _ z => z.1
  have hA1 : ∀ q, rg_A G rg q → GB G q := fun _ z => z.1
  rcases h8 with h8 | ⟨host, h8⟩
  · exact va_calli (va_runV (As := As) (rest := rest) ⟨hx, hb, hml, hown, hts⟩ hM ⟨callB_of n hts (tbl_in h4) rfl rfl rfl (hts _ h7) (hts _ h8) h2 hroom, hin, hse⟩ hpre rfl hn hl.1 hst (lv_room hW) dd hr) hS hA0 hA1 (fun r u t H1 locs1 ht hvm hp hb hz1 _ hS1 => by obtain ⟨I1, L1⟩ := u; obtain ⟨hb1, hb2, hb3⟩ := hb; rw [ht] at hb1; exact W_sz (fun hsz => kk r I1 L1 hp H1 locs1 ls (by omega) (by omega) hb1 hS1 hl))
  · exact va_calli (va_runVN (As := As) (rest := rest) (host := host) ⟨hx, hb, hml, hown, hts⟩ hM ⟨va_cnB n hts (tbl_in h4) rfl rfl rfl (hNW _ h8) (hts _ h7) h2 hroom, hin, hse⟩ hpre rfl hn hl.1 hst (lv_room hW) dd hr) hS hA0 hA1 (fun r u t H1 locs1 ht hvm hp hb hz1 _ hS1 => by obtain ⟨I1, L1⟩ := u; obtain ⟨hb1, hb2, hb3⟩ := hb; rw [ht] at hb1; exact W_sz (fun hsz => kk r I1 L1 hp H1 locs1 ls (by omega) (by omega) hb1 hS1 hl))
end JGCALLS
