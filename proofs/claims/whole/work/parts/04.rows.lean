/-! ===== the judgement J: the machine stands at pc, with these locals and this stack, over a region with these contents ===== -/
def Cx (p : Program) (s : State) (m : MethodId) (args : Array Value) (meth : Method) (c : Code) (cc : ByteArray) (nL : Nat) (own : String) (G : GT) : Prop :=
  p.tables.exec = Jvm.exec ∧ c.code = cc ∧ c.maxLocals = nL ∧ s.vm.findClass own = some m.cls ∧ (∀ w ∈ tblG, w.before args s = true) ∧ va_K G.1 vwCl (gTys G) s ∧ meth.locks = false ∧ NW s
def J (p : Program) (l : Launch) (e : Env) (R : Room) (s : State) (m : MethodId) (args : Array Value) (below : List Frame) (meth : Method) (c : Code) (Q : State → Prop) (nL : Nat) (G : GT) (rg : RgT) (kc ks : Nat) (I : II) (L : LL) (pc : Nat) (lv : LV) (st : List Value) : Prop :=
  ∀ (H : Heap) (locs : List Loc) (ls : Array Slot), va_P G.1 vwCl (rg_W G rg I L) H → va_S (rg_A G rg) s.heap H locs → lv_has ls nL (asl 0 lv) → W p l e R s m args below meth c H locs kc ks Q (F0 m pc ls st)
section JROWS
variable {p : Program} {l : Launch} {e : Env} {R : Room} {s : State} {m : MethodId} {args : Array Value} {below : List Frame} {meth : Method} {c : Code} {Q : State → Prop} {cc : ByteArray} {nL : Nat} {own : String} {G : GT} {rg : RgT} {kc ks : Nat} {I : II} {L : LL} {pc : Nat} {lv : LV} {st : List Value}
theorem j_iconst (C : Cx p s m args meth c cc nL own G) {n : Int} {v : Int32} (d : decode cc pc = .ok (.iconst n, 1)) (hv : Int32.ofInt n = v) (k : J p l e R s m args below meth c Q nL G rg kc ks I L (pc + 1) lv (.int v :: st)) : J p l e R s m args below meth c Q nL G rg kc ks I L pc lv st := fun H locs ls hP hS hl => lv_iconst C.1 C.2.1 d hv (k H locs ls hP hS hl)
theorem j_bipush (C : Cx p s m args meth c cc nL own G) {n : Int} {v : Int32} (d : decode cc pc = .ok (.bipush n, 2)) (hv : (Int8.ofInt n).toInt32 = v) (k : J p l e R s m args below meth c Q nL G rg kc ks I L (pc + 2) lv (.int v :: st)) : J p l e R s m args below meth c Q nL G rg kc ks I L pc lv st := fun H locs ls hP hS hl => lv_bipush C.1 C.2.1 d hv (k H locs ls hP hS hl)
theorem j_sipush (C : Cx p s m args meth c cc nL own G) {n : Int} {v : Int32} (d : decode cc pc = .ok (.sipush n, 3)) (hv : (Int16.ofInt n).toInt32 = v) (k : J p l e R s m args below meth c Q nL G rg kc ks I L (pc + 3) lv (.int v :: st)) : J p l e R s m args below meth c Q nL G rg kc ks I L pc lv st := fun H locs ls hP hS hl => lv_sipush C.1 C.2.1 d hv (k H locs ls hP hS hl)
theorem j_lconst (C : Cx p s m args meth c cc nL own G) {n : Fin 2} {v : Int64} (d : decode cc pc = .ok (.lconst n, 1)) (hv : Int64.ofNat (n : Nat) = v) (k : J p l e R s m args below meth c Q nL G rg kc ks I L (pc + 1) lv (.long v :: st)) : J p l e R s m args below meth c Q nL G rg kc ks I L pc lv st := fun H locs ls hP hS hl => lv_lconst C.1 C.2.1 d hv (k H locs ls hP hS hl)
theorem j_iload_n (C : Cx p s m args meth c cc nL own G) {n : Fin 4} {i : Nat} {x : Int32} (d : decode cc pc = .ok (.iload_n n, 1)) (hi : (n : Nat) = i) (hv : lv[i]? = some (some (.int x))) (k : J p l e R s m args below meth c Q nL G rg kc ks I L (pc + 1) lv (.int x :: st)) : J p l e R s m args below meth c Q nL G rg kc ks I L pc lv st := fun H locs ls hP hS hl => lv_iload_n C.1 C.2.1 d hi (lvg hl hv) (k H locs ls hP hS hl)
theorem j_iload (C : Cx p s m args meth c cc nL own G) {i : Nat} {x : Int32} (d : decode cc pc = .ok (.iload i, 2)) (hv : lv[i]? = some (some (.int x))) (k : J p l e R s m args below meth c Q nL G rg kc ks I L (pc + 2) lv (.int x :: st)) : J p l e R s m args below meth c Q nL G rg kc ks I L pc lv st := fun H locs ls hP hS hl => lv_iload C.1 C.2.1 d (lvg hl hv) (k H locs ls hP hS hl)
theorem j_istore_n (C : Cx p s m args meth c cc nL own G) {n : Fin 4} {i : Nat} {x : Int32} (d : decode cc pc = .ok (.istore_n n, 1)) (hi : (n : Nat) = i) (hn : i < nL) (k : J p l e R s m args below meth c Q nL G rg kc ks I L (pc + 1) (st1 lv i (.int x)) st) : J p l e R s m args below meth c Q nL G rg kc ks I L pc lv (.int x :: st) := fun H locs ls hP hS hl => lv_istore_n C.1 C.2.1 d hi hl hn rfl (fun ls hl => k H locs ls hP hS (lvs_1 hl))
theorem j_istore (C : Cx p s m args meth c cc nL own G) {i : Nat} {x : Int32} (d : decode cc pc = .ok (.istore i, 2)) (hn : i < nL) (k : J p l e R s m args below meth c Q nL G rg kc ks I L (pc + 2) (st1 lv i (.int x)) st) : J p l e R s m args below meth c Q nL G rg kc ks I L pc lv (.int x :: st) := fun H locs ls hP hS hl => lv_istore C.1 C.2.1 d hl hn rfl (fun ls hl => k H locs ls hP hS (lvs_1 hl))
theorem j_lload_n (C : Cx p s m args meth c cc nL own G) {n : Fin 4} {i : Nat} {x : Int64} (d : decode cc pc = .ok (.lload_n n, 1)) (hi : (n : Nat) = i) (hv : lv[i]? = some (some (.long x))) (k : J p l e R s m args below meth c Q nL G rg kc ks I L (pc + 1) lv (.long x :: st)) : J p l e R s m args below meth c Q nL G rg kc ks I L pc lv st := fun H locs ls hP hS hl => lv_lload_n C.1 C.2.1 d hi (lvg hl hv) (k H locs ls hP hS hl)
theorem j_lload (C : Cx p s m args meth c cc nL own G) {i : Nat} {x : Int64} (d : decode cc pc = .ok (.lload i, 2)) (hv : lv[i]? = some (some (.long x))) (k : J p l e R s m args below meth c Q nL G rg kc ks I L (pc + 2) lv (.long x :: st)) : J p l e R s m args below meth c Q nL G rg kc ks I L pc lv st := fun H locs ls hP hS hl => lv_lload C.1 C.2.1 d (lvg hl hv) (k H locs ls hP hS hl)
theorem j_lstore_n (C : Cx p s m args meth c cc nL own G) {n : Fin 4} {i : Nat} {x : Int64} (d : decode cc pc = .ok (.lstore_n n, 1)) (hi : (n : Nat) = i) (hn : i + 1 < nL) (k : J p l e R s m args below meth c Q nL G rg kc ks I L (pc + 1) (st2 lv i (.long x)) st) : J p l e R s m args below meth c Q nL G rg kc ks I L pc lv (.long x :: st) := fun H locs ls hP hS hl => lv_lstore_n C.1 C.2.1 d hi hl hn rfl (fun ls hl => k H locs ls hP hS (lvs_2 hl))
theorem j_lstore (C : Cx p s m args meth c cc nL own G) {i : Nat} {x : Int64} (d : decode cc pc = .ok (.lstore i, 2)) (hn : i + 1 < nL) (k : J p l e R s m args below meth c Q nL G rg kc ks I L (pc + 2) (st2 lv i (.long x)) st) : J p l e R s m args below meth c Q nL G rg kc ks I L pc lv (.long x :: st) := fun H locs ls hP hS hl => lv_lstore C.1 C.2.1 d hl hn rfl (fun ls hl => k H locs ls hP hS (lvs_2 hl))
theorem j_aload_n (C : Cx p s m args meth c cc nL own G) {n : Fin 4} {i : Nat} {x : Nat} (d : decode cc pc = .ok (.aload_n n, 1)) (hi : (n : Nat) = i) (hv : lv[i]? = some (some (.ref x))) (k : J p l e R s m args below meth c Q nL G rg kc ks I L (pc + 1) lv (.ref x :: st)) : J p l e R s m args below meth c Q nL G rg kc ks I L pc lv st := fun H locs ls hP hS hl => lv_aload_n C.1 C.2.1 d hi (lvg hl hv) (k H locs ls hP hS hl)
theorem j_aload (C : Cx p s m args meth c cc nL own G) {i : Nat} {x : Nat} (d : decode cc pc = .ok (.aload i, 2)) (hv : lv[i]? = some (some (.ref x))) (k : J p l e R s m args below meth c Q nL G rg kc ks I L (pc + 2) lv (.ref x :: st)) : J p l e R s m args below meth c Q nL G rg kc ks I L pc lv st := fun H locs ls hP hS hl => lv_aload C.1 C.2.1 d (lvg hl hv) (k H locs ls hP hS hl)
theorem j_astore_n (C : Cx p s m args meth c cc nL own G) {n : Fin 4} {i : Nat} {x : Nat} (d : decode cc pc = .ok (.astore_n n, 1)) (hi : (n : Nat) = i) (hn : i < nL) (k : J p l e R s m args below meth c Q nL G rg kc ks I L (pc + 1) (st1 lv i (.ref x)) st) : J p l e R s m args below meth c Q nL G rg kc ks I L pc lv (.ref x :: st) := fun H locs ls hP hS hl => lv_astore_n C.1 C.2.1 d hi hl hn rfl (fun ls hl => k H locs ls hP hS (lvs_1 hl))
theorem j_astore (C : Cx p s m args meth c cc nL own G) {i : Nat} {x : Nat} (d : decode cc pc = .ok (.astore i, 2)) (hn : i < nL) (k : J p l e R s m args below meth c Q nL G rg kc ks I L (pc + 2) (st1 lv i (.ref x)) st) : J p l e R s m args below meth c Q nL G rg kc ks I L pc lv (.ref x :: st) := fun H locs ls hP hS hl => lv_astore C.1 C.2.1 d hl hn rfl (fun ls hl => k H locs ls hP hS (lvs_1 hl))
theorem j_dload_n (C : Cx p s m args meth c cc nL own G) {n : Fin 4} {i : Nat} {x : UInt64} (d : decode cc pc = .ok (.dload_n n, 1)) (hi : (n : Nat) = i) (hv : lv[i]? = some (some (.double x))) (k : J p l e R s m args below meth c Q nL G rg kc ks I L (pc + 1) lv (.double x :: st)) : J p l e R s m args below meth c Q nL G rg kc ks I L pc lv st := fun H locs ls hP hS hl => lv_dload_n C.1 C.2.1 d hi (lvg hl hv) (k H locs ls hP hS hl)
theorem j_dload (C : Cx p s m args meth c cc nL own G) {i : Nat} {x : UInt64} (d : decode cc pc = .ok (.dload i, 2)) (hv : lv[i]? = some (some (.double x))) (k : J p l e R s m args below meth c Q nL G rg kc ks I L (pc + 2) lv (.double x :: st)) : J p l e R s m args below meth c Q nL G rg kc ks I L pc lv st := fun H locs ls hP hS hl => lv_dload C.1 C.2.1 d (lvg hl hv) (k H locs ls hP hS hl)
theorem j_dstore_n (C : Cx p s m args meth c cc nL own G) {n : Fin 4} {i : Nat} {x : UInt64} (d : decode cc pc = .ok (.dstore_n n, 1)) (hi : (n : Nat) = i) (hn : i + 1 < nL) (k : J p l e R s m args below meth c Q nL G rg kc ks I L (pc + 1) (st2 lv i (.double x)) st) : J p l e R s m args below meth c Q nL G rg kc ks I L pc lv (.double x :: st) := fun H locs ls hP hS hl => lv_dstore_n C.1 C.2.1 d hi hl hn rfl (fun ls hl => k H locs ls hP hS (lvs_2 hl))
theorem j_dstore (C : Cx p s m args meth c cc nL own G) {i : Nat} {x : UInt64} (d : decode cc pc = .ok (.dstore i, 2)) (hn : i + 1 < nL) (k : J p l e R s m args below meth c Q nL G rg kc ks I L (pc + 2) (st2 lv i (.double x)) st) : J p l e R s m args below meth c Q nL G rg kc ks I L pc lv (.double x :: st) := fun H locs ls hP hS hl => lv_dstore C.1 C.2.1 d hl hn rfl (fun ls hl => k H locs ls hP hS (lvs_2 hl))
theorem j_iinc (C : Cx p s m args meth c cc nL own G) {i : Nat} {n : Int} {x v : Int32} (d : decode cc pc = .ok (.iinc i n, 3)) (hi : lv[i]? = some (some (.int x))) (hv : x + Int32.ofInt n = v) (hn : i < nL) (k : J p l e R s m args below meth c Q nL G rg kc ks I L (pc + 3) (st1 lv i (.int v)) st) : J p l e R s m args below meth c Q nL G rg kc ks I L pc lv st := by
  intro H locs ls hP hS hl
  have hm := asl_mem lv 0 i _ hi
  rw [Nat.zero_add] at hm
  obtain ⟨q, hq⟩ := List.getElem?_of_mem hm
  exact lv_iinc C.1 C.2.1 d hl hq hv hn rfl (fun ls hl => k H locs ls hP hS (lvs_1 hl))
theorem j_iadd (C : Cx p s m args meth c cc nL own G) {x y : Int32} (d : decode cc pc = .ok (.iadd, 1))  (k : J p l e R s m args below meth c Q nL G rg kc ks I L (pc + 1) lv (.int (x + y) :: st)) : J p l e R s m args below meth c Q nL G rg kc ks I L pc lv (.int y :: .int x :: st) := fun H locs ls hP hS hl => lv_iadd C.1 C.2.1 d  (k H locs ls hP hS hl)
theorem j_isub (C : Cx p s m args meth c cc nL own G) {x y : Int32} (d : decode cc pc = .ok (.isub, 1))  (k : J p l e R s m args below meth c Q nL G rg kc ks I L (pc + 1) lv (.int (x - y) :: st)) : J p l e R s m args below meth c Q nL G rg kc ks I L pc lv (.int y :: .int x :: st) := fun H locs ls hP hS hl => lv_isub C.1 C.2.1 d  (k H locs ls hP hS hl)
theorem j_imul (C : Cx p s m args meth c cc nL own G) {x y : Int32} (d : decode cc pc = .ok (.imul, 1))  (k : J p l e R s m args below meth c Q nL G rg kc ks I L (pc + 1) lv (.int (x * y) :: st)) : J p l e R s m args below meth c Q nL G rg kc ks I L pc lv (.int y :: .int x :: st) := fun H locs ls hP hS hl => lv_imul C.1 C.2.1 d  (k H locs ls hP hS hl)
theorem j_iand (C : Cx p s m args meth c cc nL own G) {x y : Int32} (d : decode cc pc = .ok (.iand, 1))  (k : J p l e R s m args below meth c Q nL G rg kc ks I L (pc + 1) lv (.int (x &&& y) :: st)) : J p l e R s m args below meth c Q nL G rg kc ks I L pc lv (.int y :: .int x :: st) := fun H locs ls hP hS hl => lv_iand C.1 C.2.1 d  (k H locs ls hP hS hl)
theorem j_ior (C : Cx p s m args meth c cc nL own G) {x y : Int32} (d : decode cc pc = .ok (.ior, 1))  (k : J p l e R s m args below meth c Q nL G rg kc ks I L (pc + 1) lv (.int (x ||| y) :: st)) : J p l e R s m args below meth c Q nL G rg kc ks I L pc lv (.int y :: .int x :: st) := fun H locs ls hP hS hl => lv_ior C.1 C.2.1 d  (k H locs ls hP hS hl)
theorem j_ladd (C : Cx p s m args meth c cc nL own G) {x y : Int64} (d : decode cc pc = .ok (.ladd, 1))  (k : J p l e R s m args below meth c Q nL G rg kc ks I L (pc + 1) lv (.long (x + y) :: st)) : J p l e R s m args below meth c Q nL G rg kc ks I L pc lv (.long y :: .long x :: st) := fun H locs ls hP hS hl => lv_ladd C.1 C.2.1 d  (k H locs ls hP hS hl)
theorem j_lsub (C : Cx p s m args meth c cc nL own G) {x y : Int64} (d : decode cc pc = .ok (.lsub, 1))  (k : J p l e R s m args below meth c Q nL G rg kc ks I L (pc + 1) lv (.long (x - y) :: st)) : J p l e R s m args below meth c Q nL G rg kc ks I L pc lv (.long y :: .long x :: st) := fun H locs ls hP hS hl => lv_lsub C.1 C.2.1 d  (k H locs ls hP hS hl)
theorem j_lmul (C : Cx p s m args meth c cc nL own G) {x y : Int64} (d : decode cc pc = .ok (.lmul, 1))  (k : J p l e R s m args below meth c Q nL G rg kc ks I L (pc + 1) lv (.long (x * y) :: st)) : J p l e R s m args below meth c Q nL G rg kc ks I L pc lv (.long y :: .long x :: st) := fun H locs ls hP hS hl => lv_lmul C.1 C.2.1 d  (k H locs ls hP hS hl)
theorem j_land (C : Cx p s m args meth c cc nL own G) {x y : Int64} (d : decode cc pc = .ok (.land, 1))  (k : J p l e R s m args below meth c Q nL G rg kc ks I L (pc + 1) lv (.long (x &&& y) :: st)) : J p l e R s m args below meth c Q nL G rg kc ks I L pc lv (.long y :: .long x :: st) := fun H locs ls hP hS hl => lv_land C.1 C.2.1 d  (k H locs ls hP hS hl)
theorem j_lor (C : Cx p s m args meth c cc nL own G) {x y : Int64} (d : decode cc pc = .ok (.lor, 1))  (k : J p l e R s m args below meth c Q nL G rg kc ks I L (pc + 1) lv (.long (x ||| y) :: st)) : J p l e R s m args below meth c Q nL G rg kc ks I L pc lv (.long y :: .long x :: st) := fun H locs ls hP hS hl => lv_lor C.1 C.2.1 d  (k H locs ls hP hS hl)
theorem j_lxor (C : Cx p s m args meth c cc nL own G) {x y : Int64} (d : decode cc pc = .ok (.lxor, 1))  (k : J p l e R s m args below meth c Q nL G rg kc ks I L (pc + 1) lv (.long (x ^^^ y) :: st)) : J p l e R s m args below meth c Q nL G rg kc ks I L pc lv (.long y :: .long x :: st) := fun H locs ls hP hS hl => lv_lxor C.1 C.2.1 d  (k H locs ls hP hS hl)
theorem j_idiv (C : Cx p s m args meth c cc nL own G) {x y : Int32} (d : decode cc pc = .ok (.idiv, 1)) (hne : ¬ y = 0) (k : J p l e R s m args below meth c Q nL G rg kc ks I L (pc + 1) lv (.int (x / y) :: st)) : J p l e R s m args below meth c Q nL G rg kc ks I L pc lv (.int y :: .int x :: st) := fun H locs ls hP hS hl => lv_idiv C.1 C.2.1 d hne (k H locs ls hP hS hl)
theorem j_irem (C : Cx p s m args meth c cc nL own G) {x y : Int32} (d : decode cc pc = .ok (.irem, 1)) (hne : ¬ y = 0) (k : J p l e R s m args below meth c Q nL G rg kc ks I L (pc + 1) lv (.int (x - x / y * y) :: st)) : J p l e R s m args below meth c Q nL G rg kc ks I L pc lv (.int y :: .int x :: st) := fun H locs ls hP hS hl => lv_irem C.1 C.2.1 d hne (k H locs ls hP hS hl)
theorem j_ldiv (C : Cx p s m args meth c cc nL own G) {x y : Int64} (d : decode cc pc = .ok (.ldiv, 1)) (hne : ¬ y = 0) (k : J p l e R s m args below meth c Q nL G rg kc ks I L (pc + 1) lv (.long (x / y) :: st)) : J p l e R s m args below meth c Q nL G rg kc ks I L pc lv (.long y :: .long x :: st) := fun H locs ls hP hS hl => lv_ldiv C.1 C.2.1 d hne (k H locs ls hP hS hl)
theorem j_lrem (C : Cx p s m args meth c cc nL own G) {x y : Int64} (d : decode cc pc = .ok (.lrem, 1)) (hne : ¬ y = 0) (k : J p l e R s m args below meth c Q nL G rg kc ks I L (pc + 1) lv (.long (x - x / y * y) :: st)) : J p l e R s m args below meth c Q nL G rg kc ks I L pc lv (.long y :: .long x :: st) := fun H locs ls hP hS hl => lv_lrem C.1 C.2.1 d hne (k H locs ls hP hS hl)
theorem j_lneg (C : Cx p s m args meth c cc nL own G) {x : Int64} (d : decode cc pc = .ok (.lneg, 1))  (k : J p l e R s m args below meth c Q nL G rg kc ks I L (pc + 1) lv (.long (-x) :: st)) : J p l e R s m args below meth c Q nL G rg kc ks I L pc lv (.long x :: st) := fun H locs ls hP hS hl => lv_lneg C.1 C.2.1 d  (k H locs ls hP hS hl)
theorem j_ishl (C : Cx p s m args meth c cc nL own G) {x y : Int32} (d : decode cc pc = .ok (.ishl, 1))  (k : J p l e R s m args below meth c Q nL G rg kc ks I L (pc + 1) lv (.int (x <<< (y &&& 31)) :: st)) : J p l e R s m args below meth c Q nL G rg kc ks I L pc lv (.int y :: .int x :: st) := fun H locs ls hP hS hl => lv_ishl C.1 C.2.1 d  (k H locs ls hP hS hl)
theorem j_ishr (C : Cx p s m args meth c cc nL own G) {x y : Int32} (d : decode cc pc = .ok (.ishr, 1))  (k : J p l e R s m args below meth c Q nL G rg kc ks I L (pc + 1) lv (.int (x >>> (y &&& 31)) :: st)) : J p l e R s m args below meth c Q nL G rg kc ks I L pc lv (.int y :: .int x :: st) := fun H locs ls hP hS hl => lv_ishr C.1 C.2.1 d  (k H locs ls hP hS hl)
theorem j_lshl (C : Cx p s m args meth c cc nL own G) {x : Int64} {y : Int32} (d : decode cc pc = .ok (.lshl, 1))  (k : J p l e R s m args below meth c Q nL G rg kc ks I L (pc + 1) lv (.long (x <<< (y.toInt64 &&& 63)) :: st)) : J p l e R s m args below meth c Q nL G rg kc ks I L pc lv (.int y :: .long x :: st) := fun H locs ls hP hS hl => lv_lshl C.1 C.2.1 d rfl (k H locs ls hP hS hl)
theorem j_i2l (C : Cx p s m args meth c cc nL own G) {x : Int32} (d : decode cc pc = .ok (.i2l, 1))  (k : J p l e R s m args below meth c Q nL G rg kc ks I L (pc + 1) lv (.long x.toInt64 :: st)) : J p l e R s m args below meth c Q nL G rg kc ks I L pc lv (.int x :: st) := fun H locs ls hP hS hl => lv_i2l C.1 C.2.1 d rfl (k H locs ls hP hS hl)
theorem j_dup (C : Cx p s m args meth c cc nL own G) {va : Value} (d : decode cc pc = .ok (.dup, 1)) (hva : va.category = 1) (k : J p l e R s m args below meth c Q nL G rg kc ks I L (pc + 1) lv (va :: va :: st)) : J p l e R s m args below meth c Q nL G rg kc ks I L pc lv (va :: st) := fun H locs ls hP hS hl => lv_dup C.1 C.2.1 d hva (k H locs ls hP hS hl)
theorem j_pop (C : Cx p s m args meth c cc nL own G) {va : Value} (d : decode cc pc = .ok (.pop, 1)) (hva : va.category = 1) (k : J p l e R s m args below meth c Q nL G rg kc ks I L (pc + 1) lv st) : J p l e R s m args below meth c Q nL G rg kc ks I L pc lv (va :: st) := fun H locs ls hP hS hl => lv_pop C.1 C.2.1 d hva (k H locs ls hP hS hl)
theorem j_dup2 (C : Cx p s m args meth c cc nL own G) {va vb : Value} (d : decode cc pc = .ok (.dup2, 1)) (hva : va.category = 1) (hvb : vb.category = 1) (k : J p l e R s m args below meth c Q nL G rg kc ks I L (pc + 1) lv (va :: vb :: va :: vb :: st)) : J p l e R s m args below meth c Q nL G rg kc ks I L pc lv (va :: vb :: st) := fun H locs ls hP hS hl => lv_dup2_11 C.1 C.2.1 d hva hvb (k H locs ls hP hS hl)
theorem j_l2d (C : Cx p s m args meth c cc nL own G) {x : Int64} (d : decode cc pc = .ok (.l2d, 1))  (k : J p l e R s m args below meth c Q nL G rg kc ks I L (pc + 1) lv (.double (FP.l2d x) :: st)) : J p l e R s m args below meth c Q nL G rg kc ks I L pc lv (.long x :: st) := fun H locs ls hP hS hl => lv_l2d C.1 C.2.1 d  (k H locs ls hP hS hl)
theorem j_dneg (C : Cx p s m args meth c cc nL own G) {x : UInt64} (d : decode cc pc = .ok (.dneg, 1))  (k : J p l e R s m args below meth c Q nL G rg kc ks I L (pc + 1) lv (.double (FP.dneg x) :: st)) : J p l e R s m args below meth c Q nL G rg kc ks I L pc lv (.double x :: st) := fun H locs ls hP hS hl => lv_dneg C.1 C.2.1 d  (k H locs ls hP hS hl)
theorem j_d2l (C : Cx p s m args meth c cc nL own G) {x : UInt64} (d : decode cc pc = .ok (.d2l, 1))  (k : J p l e R s m args below meth c Q nL G rg kc ks I L (pc + 1) lv (.long (FP.d2l x) :: st)) : J p l e R s m args below meth c Q nL G rg kc ks I L pc lv (.double x :: st) := fun H locs ls hP hS hl => lv_d2l C.1 C.2.1 d  (k H locs ls hP hS hl)
theorem j_ddiv (C : Cx p s m args meth c cc nL own G) {x y : UInt64} (d : decode cc pc = .ok (.ddiv, 1)) (hne : vf_n64 (FP.ddiv x y)) (k : J p l e R s m args below meth c Q nL G rg kc ks I L (pc + 1) lv (.double (FP.ddiv x y) :: st)) : J p l e R s m args below meth c Q nL G rg kc ks I L pc lv (.double y :: .double x :: st) := fun H locs ls hP hS hl => lv_ddiv C.1 C.2.1 d hne (k H locs ls hP hS hl)
theorem j_dmul (C : Cx p s m args meth c cc nL own G) {x y : UInt64} (d : decode cc pc = .ok (.dmul, 1)) (hne : vf_n64 (FP.dmul x y)) (k : J p l e R s m args below meth c Q nL G rg kc ks I L (pc + 1) lv (.double (FP.dmul x y) :: st)) : J p l e R s m args below meth c Q nL G rg kc ks I L pc lv (.double y :: .double x :: st) := fun H locs ls hP hS hl => lv_dmul C.1 C.2.1 d hne (k H locs ls hP hS hl)
theorem j_dcmp (C : Cx p s m args meth c cc nL own G) {x y : UInt64} {op : CmpOp} (d : decode cc pc = .ok (.dcmp op, 1))  (k : J p l e R s m args below meth c Q nL G rg kc ks I L (pc + 1) lv (.int (Op.cmpValue (FP.dcmp x y) op) :: st)) : J p l e R s m args below meth c Q nL G rg kc ks I L pc lv (.double y :: .double x :: st) := fun H locs ls hP hS hl => lv_dcmp C.1 C.2.1 d  (k H locs ls hP hS hl)
theorem j_lcmp (C : Cx p s m args meth c cc nL own G) {x y : Int64} (d : decode cc pc = .ok (.lcmp, 1))  (k : J p l e R s m args below meth c Q nL G rg kc ks I L (pc + 1) lv (.int (lg_cmp x y) :: st)) : J p l e R s m args below meth c Q nL G rg kc ks I L pc lv (.long y :: .long x :: st) := fun H locs ls hP hS hl => W.lcmp C.1 C.2.1 d  (k H locs ls hP hS hl)
theorem j_if_eq (C : Cx p s m args meth c cc nL own G) {x : Int32} {off : Int} {tgt : Nat} (d : decode cc pc = .ok (.ifCond .eq off, 3)) (ht : (pc : Int) + off = (tgt : Int)) (kt : x = 0 → J p l e R s m args below meth c Q nL G rg kc ks I L tgt lv st) (kf : ¬ x = 0 → J p l e R s m args below meth c Q nL G rg kc ks I L (pc + 3) lv st) : J p l e R s m args below meth c Q nL G rg kc ks I L pc lv (.int x :: st) := fun H locs ls hP hS hl => lv_if_eq C.1 C.2.1 d ht (fun h => kt h H locs ls hP hS hl) (fun h => kf h H locs ls hP hS hl)
theorem j_icmp_eq (C : Cx p s m args meth c cc nL own G) {x y : Int32} {off : Int} {tgt : Nat} (d : decode cc pc = .ok (.if_icmp .eq off, 3)) (ht : (pc : Int) + off = (tgt : Int)) (kt : x = y → J p l e R s m args below meth c Q nL G rg kc ks I L tgt lv st) (kf : ¬ x = y → J p l e R s m args below meth c Q nL G rg kc ks I L (pc + 3) lv st) : J p l e R s m args below meth c Q nL G rg kc ks I L pc lv (.int y :: .int x :: st) := fun H locs ls hP hS hl => lv_icmp_eq C.1 C.2.1 d ht (fun h => kt h H locs ls hP hS hl) (fun h => kf h H locs ls hP hS hl)
theorem j_if_ne (C : Cx p s m args meth c cc nL own G) {x : Int32} {off : Int} {tgt : Nat} (d : decode cc pc = .ok (.ifCond .ne off, 3)) (ht : (pc : Int) + off = (tgt : Int)) (kt : ¬ x = 0 → J p l e R s m args below meth c Q nL G rg kc ks I L tgt lv st) (kf : x = 0 → J p l e R s m args below meth c Q nL G rg kc ks I L (pc + 3) lv st) : J p l e R s m args below meth c Q nL G rg kc ks I L pc lv (.int x :: st) := fun H locs ls hP hS hl => lv_if_ne C.1 C.2.1 d ht (fun h => kt h H locs ls hP hS hl) (fun h => kf h H locs ls hP hS hl)
theorem j_icmp_ne (C : Cx p s m args meth c cc nL own G) {x y : Int32} {off : Int} {tgt : Nat} (d : decode cc pc = .ok (.if_icmp .ne off, 3)) (ht : (pc : Int) + off = (tgt : Int)) (kt : ¬ x = y → J p l e R s m args below meth c Q nL G rg kc ks I L tgt lv st) (kf : x = y → J p l e R s m args below meth c Q nL G rg kc ks I L (pc + 3) lv st) : J p l e R s m args below meth c Q nL G rg kc ks I L pc lv (.int y :: .int x :: st) := fun H locs ls hP hS hl => lv_icmp_ne C.1 C.2.1 d ht (fun h => kt h H locs ls hP hS hl) (fun h => kf h H locs ls hP hS hl)
theorem j_if_lt (C : Cx p s m args meth c cc nL own G) {x : Int32} {off : Int} {tgt : Nat} (d : decode cc pc = .ok (.ifCond .lt off, 3)) (ht : (pc : Int) + off = (tgt : Int)) (kt : x < 0 → J p l e R s m args below meth c Q nL G rg kc ks I L tgt lv st) (kf : ¬ x < 0 → J p l e R s m args below meth c Q nL G rg kc ks I L (pc + 3) lv st) : J p l e R s m args below meth c Q nL G rg kc ks I L pc lv (.int x :: st) := fun H locs ls hP hS hl => lv_if_lt C.1 C.2.1 d ht (fun h => kt h H locs ls hP hS hl) (fun h => kf h H locs ls hP hS hl)
theorem j_icmp_lt (C : Cx p s m args meth c cc nL own G) {x y : Int32} {off : Int} {tgt : Nat} (d : decode cc pc = .ok (.if_icmp .lt off, 3)) (ht : (pc : Int) + off = (tgt : Int)) (kt : x < y → J p l e R s m args below meth c Q nL G rg kc ks I L tgt lv st) (kf : ¬ x < y → J p l e R s m args below meth c Q nL G rg kc ks I L (pc + 3) lv st) : J p l e R s m args below meth c Q nL G rg kc ks I L pc lv (.int y :: .int x :: st) := fun H locs ls hP hS hl => lv_icmp_lt C.1 C.2.1 d ht (fun h => kt h H locs ls hP hS hl) (fun h => kf h H locs ls hP hS hl)
theorem j_if_ge (C : Cx p s m args meth c cc nL own G) {x : Int32} {off : Int} {tgt : Nat} (d : decode cc pc = .ok (.ifCond .ge off, 3)) (ht : (pc : Int) + off = (tgt : Int)) (kt : 0 ≤ x → J p l e R s m args below meth c Q nL G rg kc ks I L tgt lv st) (kf : ¬ 0 ≤ x → J p l e R s m args below meth c Q nL G rg kc ks I L (pc + 3) lv st) : J p l e R s m args below meth c Q nL G rg kc ks I L pc lv (.int x :: st) := fun H locs ls hP hS hl => lv_if_ge C.1 C.2.1 d ht (fun h => kt h H locs ls hP hS hl) (fun h => kf h H locs ls hP hS hl)
theorem j_icmp_ge (C : Cx p s m args meth c cc nL own G) {x y : Int32} {off : Int} {tgt : Nat} (d : decode cc pc = .ok (.if_icmp .ge off, 3)) (ht : (pc : Int) + off = (tgt : Int)) (kt : y ≤ x → J p l e R s m args below meth c Q nL G rg kc ks I L tgt lv st) (kf : ¬ y ≤ x → J p l e R s m args below meth c Q nL G rg kc ks I L (pc + 3) lv st) : J p l e R s m args below meth c Q nL G rg kc ks I L pc lv (.int y :: .int x :: st) := fun H locs ls hP hS hl => lv_icmp_ge C.1 C.2.1 d ht (fun h => kt h H locs ls hP hS hl) (fun h => kf h H locs ls hP hS hl)
theorem j_if_gt (C : Cx p s m args meth c cc nL own G) {x : Int32} {off : Int} {tgt : Nat} (d : decode cc pc = .ok (.ifCond .gt off, 3)) (ht : (pc : Int) + off = (tgt : Int)) (kt : 0 < x → J p l e R s m args below meth c Q nL G rg kc ks I L tgt lv st) (kf : ¬ 0 < x → J p l e R s m args below meth c Q nL G rg kc ks I L (pc + 3) lv st) : J p l e R s m args below meth c Q nL G rg kc ks I L pc lv (.int x :: st) := fun H locs ls hP hS hl => lv_if_gt C.1 C.2.1 d ht (fun h => kt h H locs ls hP hS hl) (fun h => kf h H locs ls hP hS hl)
theorem j_icmp_gt (C : Cx p s m args meth c cc nL own G) {x y : Int32} {off : Int} {tgt : Nat} (d : decode cc pc = .ok (.if_icmp .gt off, 3)) (ht : (pc : Int) + off = (tgt : Int)) (kt : y < x → J p l e R s m args below meth c Q nL G rg kc ks I L tgt lv st) (kf : ¬ y < x → J p l e R s m args below meth c Q nL G rg kc ks I L (pc + 3) lv st) : J p l e R s m args below meth c Q nL G rg kc ks I L pc lv (.int y :: .int x :: st) := fun H locs ls hP hS hl => lv_icmp_gt C.1 C.2.1 d ht (fun h => kt h H locs ls hP hS hl) (fun h => kf h H locs ls hP hS hl)
theorem j_if_le (C : Cx p s m args meth c cc nL own G) {x : Int32} {off : Int} {tgt : Nat} (d : decode cc pc = .ok (.ifCond .le off, 3)) (ht : (pc : Int) + off = (tgt : Int)) (kt : x ≤ 0 → J p l e R s m args below meth c Q nL G rg kc ks I L tgt lv st) (kf : ¬ x ≤ 0 → J p l e R s m args below meth c Q nL G rg kc ks I L (pc + 3) lv st) : J p l e R s m args below meth c Q nL G rg kc ks I L pc lv (.int x :: st) := fun H locs ls hP hS hl => lv_if_le C.1 C.2.1 d ht (fun h => kt h H locs ls hP hS hl) (fun h => kf h H locs ls hP hS hl)
theorem j_icmp_le (C : Cx p s m args meth c cc nL own G) {x y : Int32} {off : Int} {tgt : Nat} (d : decode cc pc = .ok (.if_icmp .le off, 3)) (ht : (pc : Int) + off = (tgt : Int)) (kt : x ≤ y → J p l e R s m args below meth c Q nL G rg kc ks I L tgt lv st) (kf : ¬ x ≤ y → J p l e R s m args below meth c Q nL G rg kc ks I L (pc + 3) lv st) : J p l e R s m args below meth c Q nL G rg kc ks I L pc lv (.int y :: .int x :: st) := fun H locs ls hP hS hl => lv_icmp_le C.1 C.2.1 d ht (fun h => kt h H locs ls hP hS hl) (fun h => kf h H locs ls hP hS hl)
theorem j_goto (C : Cx p s m args meth c cc nL own G) {off : Int} {tgt : Nat} (d : decode cc pc = .ok (.goto off, 3)) (ht : (pc : Int) + off = (tgt : Int)) (k : J p l e R s m args below meth c Q nL G rg kc ks I L tgt lv st) : J p l e R s m args below meth c Q nL G rg kc ks I L pc lv st := fun H locs ls hP hS hl => lv_goto C.1 C.2.1 d ht (k H locs ls hP hS hl)
theorem lc_lt (x y : Int64) : lg_cmp x y < 0 ↔ x < y := by
  unfold lg_cmp
  simp only [gt_iff_lt, Int64.lt_iff_toInt_lt, Int64.le_iff_toInt_le, ← Int64.toInt_inj]
  by_cases h1 : y.toInt < x.toInt
  · rw [if_pos h1]
    exact ⟨fun h => by first | exact absurd h (by decide) | omega, fun h => by first | decide | omega⟩
  · rw [if_neg h1]
    by_cases h2 : x.toInt = y.toInt
    · rw [if_pos h2]
      exact ⟨fun h => by first | exact absurd h (by decide) | omega, fun h => by first | decide | omega⟩
    · rw [if_neg h2]
      exact ⟨fun h => by first | exact absurd h (by decide) | omega, fun h => by first | decide | omega⟩
theorem lc_ge (x y : Int64) : 0 ≤ lg_cmp x y ↔ y ≤ x := by
  unfold lg_cmp
  simp only [gt_iff_lt, Int64.lt_iff_toInt_lt, Int64.le_iff_toInt_le, ← Int64.toInt_inj]
  by_cases h1 : y.toInt < x.toInt
  · rw [if_pos h1]
    exact ⟨fun h => by first | exact absurd h (by decide) | omega, fun h => by first | decide | omega⟩
  · rw [if_neg h1]
    by_cases h2 : x.toInt = y.toInt
    · rw [if_pos h2]
      exact ⟨fun h => by first | exact absurd h (by decide) | omega, fun h => by first | decide | omega⟩
    · rw [if_neg h2]
      exact ⟨fun h => by first | exact absurd h (by decide) | omega, fun h => by first | decide | omega⟩
theorem lc_gt (x y : Int64) : 0 < lg_cmp x y ↔ y < x := by
  unfold lg_cmp
  simp only [gt_iff_lt, Int64.lt_iff_toInt_lt, Int64.le_iff_toInt_le, ← Int64.toInt_inj]
  by_cases h1 : y.toInt < x.toInt
  · rw [if_pos h1]
    exact ⟨fun h => by first | exact absurd h (by decide) | omega, fun h => by first | decide | omega⟩
  · rw [if_neg h1]
    by_cases h2 : x.toInt = y.toInt
    · rw [if_pos h2]
      exact ⟨fun h => by first | exact absurd h (by decide) | omega, fun h => by first | decide | omega⟩
    · rw [if_neg h2]
      exact ⟨fun h => by first | exact absurd h (by decide) | omega, fun h => by first | decide | omega⟩
theorem lc_le (x y : Int64) : lg_cmp x y ≤ 0 ↔ x ≤ y := by
  unfold lg_cmp
  simp only [gt_iff_lt, Int64.lt_iff_toInt_lt, Int64.le_iff_toInt_le, ← Int64.toInt_inj]
  by_cases h1 : y.toInt < x.toInt
  · rw [if_pos h1]
    exact ⟨fun h => by first | exact absurd h (by decide) | omega, fun h => by first | decide | omega⟩
  · rw [if_neg h1]
    by_cases h2 : x.toInt = y.toInt
    · rw [if_pos h2]
      exact ⟨fun h => by first | exact absurd h (by decide) | omega, fun h => by first | decide | omega⟩
    · rw [if_neg h2]
      exact ⟨fun h => by first | exact absurd h (by decide) | omega, fun h => by first | decide | omega⟩
theorem lc_eq (x y : Int64) : lg_cmp x y = 0 ↔ x = y := by
  unfold lg_cmp
  simp only [gt_iff_lt, Int64.lt_iff_toInt_lt, Int64.le_iff_toInt_le, ← Int64.toInt_inj]
  by_cases h1 : y.toInt < x.toInt
  · rw [if_pos h1]
    exact ⟨fun h => by first | exact absurd h (by decide) | omega, fun h => by first | decide | omega⟩
  · rw [if_neg h1]
    by_cases h2 : x.toInt = y.toInt
    · rw [if_pos h2]
      exact ⟨fun h => by first | exact absurd h (by decide) | omega, fun h => by first | decide | omega⟩
    · rw [if_neg h2]
      exact ⟨fun h => by first | exact absurd h (by decide) | omega, fun h => by first | decide | omega⟩
theorem j_lc_eq (C : Cx p s m args meth c cc nL own G) {x y : Int64} {off : Int} {tgt : Nat} (d0 : decode cc pc = .ok (.lcmp, 1)) (d : decode cc (pc + 1) = .ok (.ifCond .eq off, 3)) (ht : ((pc + 1 : Nat) : Int) + off = (tgt : Int)) (kt : x = y → J p l e R s m args below meth c Q nL G rg kc ks I L tgt lv st) (kf : ¬ x = y → J p l e R s m args below meth c Q nL G rg kc ks I L (pc + 1 + 3) lv st) : J p l e R s m args below meth c Q nL G rg kc ks I L pc lv (.long y :: .long x :: st) := j_lcmp C d0 (j_if_eq C d ht (fun h => kt ((lc_eq x y).mp h)) (fun h => kf (fun q => h ((lc_eq x y).mpr q))))
theorem j_lc_ne (C : Cx p s m args meth c cc nL own G) {x y : Int64} {off : Int} {tgt : Nat} (d0 : decode cc pc = .ok (.lcmp, 1)) (d : decode cc (pc + 1) = .ok (.ifCond .ne off, 3)) (ht : ((pc + 1 : Nat) : Int) + off = (tgt : Int)) (kt : ¬ x = y → J p l e R s m args below meth c Q nL G rg kc ks I L tgt lv st) (kf : x = y → J p l e R s m args below meth c Q nL G rg kc ks I L (pc + 1 + 3) lv st) : J p l e R s m args below meth c Q nL G rg kc ks I L pc lv (.long y :: .long x :: st) := j_lcmp C d0 (j_if_ne C d ht (fun h => kt (fun q => h ((lc_eq x y).mpr q))) (fun h => kf ((lc_eq x y).mp h)))
theorem j_lc_lt (C : Cx p s m args meth c cc nL own G) {x y : Int64} {off : Int} {tgt : Nat} (d0 : decode cc pc = .ok (.lcmp, 1)) (d : decode cc (pc + 1) = .ok (.ifCond .lt off, 3)) (ht : ((pc + 1 : Nat) : Int) + off = (tgt : Int)) (kt : x < y → J p l e R s m args below meth c Q nL G rg kc ks I L tgt lv st) (kf : ¬ x < y → J p l e R s m args below meth c Q nL G rg kc ks I L (pc + 1 + 3) lv st) : J p l e R s m args below meth c Q nL G rg kc ks I L pc lv (.long y :: .long x :: st) := j_lcmp C d0 (j_if_lt C d ht (fun h => kt ((lc_lt x y).mp h)) (fun h => kf (fun q => h ((lc_lt x y).mpr q))))
theorem j_lc_ge (C : Cx p s m args meth c cc nL own G) {x y : Int64} {off : Int} {tgt : Nat} (d0 : decode cc pc = .ok (.lcmp, 1)) (d : decode cc (pc + 1) = .ok (.ifCond .ge off, 3)) (ht : ((pc + 1 : Nat) : Int) + off = (tgt : Int)) (kt : y ≤ x → J p l e R s m args below meth c Q nL G rg kc ks I L tgt lv st) (kf : ¬ y ≤ x → J p l e R s m args below meth c Q nL G rg kc ks I L (pc + 1 + 3) lv st) : J p l e R s m args below meth c Q nL G rg kc ks I L pc lv (.long y :: .long x :: st) := j_lcmp C d0 (j_if_ge C d ht (fun h => kt ((lc_ge x y).mp h)) (fun h => kf (fun q => h ((lc_ge x y).mpr q))))
theorem j_lc_gt (C : Cx p s m args meth c cc nL own G) {x y : Int64} {off : Int} {tgt : Nat} (d0 : decode cc pc = .ok (.lcmp, 1)) (d : decode cc (pc + 1) = .ok (.ifCond .gt off, 3)) (ht : ((pc + 1 : Nat) : Int) + off = (tgt : Int)) (kt : y < x → J p l e R s m args below meth c Q nL G rg kc ks I L tgt lv st) (kf : ¬ y < x → J p l e R s m args below meth c Q nL G rg kc ks I L (pc + 1 + 3) lv st) : J p l e R s m args below meth c Q nL G rg kc ks I L pc lv (.long y :: .long x :: st) := j_lcmp C d0 (j_if_gt C d ht (fun h => kt ((lc_gt x y).mp h)) (fun h => kf (fun q => h ((lc_gt x y).mpr q))))
theorem j_lc_le (C : Cx p s m args meth c cc nL own G) {x y : Int64} {off : Int} {tgt : Nat} (d0 : decode cc pc = .ok (.lcmp, 1)) (d : decode cc (pc + 1) = .ok (.ifCond .le off, 3)) (ht : ((pc + 1 : Nat) : Int) + off = (tgt : Int)) (kt : x ≤ y → J p l e R s m args below meth c Q nL G rg kc ks I L tgt lv st) (kf : ¬ x ≤ y → J p l e R s m args below meth c Q nL G rg kc ks I L (pc + 1 + 3) lv st) : J p l e R s m args below meth c Q nL G rg kc ks I L pc lv (.long y :: .long x :: st) := j_lcmp C d0 (j_if_le C d ht (fun h => kt ((lc_le x y).mp h)) (fun h => kf (fun q => h ((lc_le x y).mpr q))))
theorem j_ldc (C : Cx p s m args meth c cc nL own G) {idx : Nat} {v : Int32} (hw : Cond.constant own idx v ∈ tblG) (d : decode cc pc = .ok (.ldc idx, 2)) (k : J p l e R s m args below meth c Q nL G rg kc ks I L (pc + 2) lv (.int v :: st)) : J p l e R s m args below meth c Q nL G rg kc ks I L pc lv st := fun H locs ls hP hS hl => lv_ldc C.1 C.2.1 C.2.2.2.1 (C.2.2.2.2.1 _ hw) d (k H locs ls hP hS hl)
theorem j_ldc2 (C : Cx p s m args meth c cc nL own G) {idx : Nat} {v : Int64} (hw : Cond.constantLong own idx v ∈ tblG) (d : decode cc pc = .ok (.ldc2_w idx, 3)) (k : J p l e R s m args below meth c Q nL G rg kc ks I L (pc + 3) lv (.long v :: st)) : J p l e R s m args below meth c Q nL G rg kc ks I L pc lv st := fun H locs ls hP hS hl => lv_ldc2 C.1 C.2.1 C.2.2.2.1 (C.2.2.2.2.1 _ hw) d (k H locs ls hP hS hl)
theorem j_ldc2d (C : Cx p s m args meth c cc nL own G) {idx : Nat} {v : UInt64} (hw : Cond.constantDouble own idx v ∈ tblG) (d : decode cc pc = .ok (.ldc2_w idx, 3)) (k : J p l e R s m args below meth c Q nL G rg kc ks I L (pc + 3) lv (.double v :: st)) : J p l e R s m args below meth c Q nL G rg kc ks I L pc lv st := fun H locs ls hP hS hl => lv_ldc2d C.1 C.2.1 C.2.2.2.1 (C.2.2.2.2.1 _ hw) d (k H locs ls hP hS hl)
theorem j_dconst0 (C : Cx p s m args meth c cc nL own G) (d : decode cc pc = .ok (.dconst 0, 1)) (k : J p l e R s m args below meth c Q nL G rg kc ks I L (pc + 1) lv (.double FP.dconst0 :: st)) : J p l e R s m args below meth c Q nL G rg kc ks I L pc lv st := fun H locs ls hP hS hl => lv_dconst0 C.1 C.2.1 d (k H locs ls hP hS hl)
theorem j_dconst1 (C : Cx p s m args meth c cc nL own G) (d : decode cc pc = .ok (.dconst 1, 1)) (k : J p l e R s m args below meth c Q nL G rg kc ks I L (pc + 1) lv (.double FP.dconst1 :: st)) : J p l e R s m args below meth c Q nL G rg kc ks I L pc lv st := fun H locs ls hP hS hl => lv_dconst1 C.1 C.2.1 d (k H locs ls hP hS hl)
theorem rg_obj {G : GT} {rg : RgT} {I : II} {L : LL} {o ci : Nat} {h : ShT} (hs : rg.2 o = h) (hc : h.1 = ci + 6) : rg_cell G I L o (rg.2 o) = .inr (ci, rg_fvs (gB G) I L o 0 h.2.2.2) := by
  rw [hs, rg_cell, if_neg (by omega), if_neg (by omega), if_neg (by omega), if_neg (by omega), hc, Nat.add_sub_cancel]
/-- a field of class ci at place k is linked at idx of own's pool -/
def FL (own : String) (idx ci k : Nat) : Prop := ∃ (C : String) (T : u_T) (N : Nat), vwCl[ci]? = some (C, T, N) ∧ k < N ∧ (∀ w ∈ u_ws C T N, w ∈ tblG) ∧ (T k).1 = C ∧ (Cond.fieldLink own idx C (T k).2.1 (T k).2.2.1 ∈ tblG ∨ ∃ host, Cond.fieldLinkNest own idx C (T k).2.1 (T k).2.2.1 host ∈ xw)
/-- and may be written, with values of type ty -/
def FW (own : String) (idx ci k : Nat) (ty : FieldType) : Prop := ∃ (C : String) (T : u_T) (N : Nat) (ty0 : Nat → FieldType), vwCl[ci]? = some (C, T, N) ∧ k < N ∧ (∀ w ∈ u_ws C T N, w ∈ tblG) ∧ (T k).1 = C ∧ (Cond.fieldLink own idx C (T k).2.1 (T k).2.2.1 ∈ tblG ∨ ∃ host, Cond.fieldLinkNest own idx C (T k).2.1 (T k).2.2.1 host ∈ xw) ∧ (∀ k, k < N → parseFieldDescriptor (T k).2.2.1 = some (ty0 k)) ∧ (∀ a, a < N → ∀ b, b < N → a ≠ b → (T a).2.1 ≠ (T b).2.1) ∧ (T k).2.2.2 = false ∧ parseFieldDescriptor (T k).2.2.1 = some ty
theorem j_getI (C : Cx p s m args meth c cc nL own G) {idx ci q z o : Nat} {h : ShT} (fl : FL own idx ci q) (ho : o < rg.1) (hs : rg.2 o = h) (hc : h.1 = ci + 6) (hq : h.2.2.2[q]? = some (0, z)) (d : decode cc pc = .ok (.getfield idx, 3)) (k : J p l e R s m args below meth c Q nL G rg kc ks I L (pc + 3) lv (.int (I o q) :: st)) : J p l e R s m args below meth c Q nL G rg kc ks I L pc lv (.ref (gB G + o) :: st) := by
  intro H locs ls hP hS hl
  obtain ⟨Cn, T, N, h1, h2, h3, h4, h5⟩ := fl
  have he := rg_at (G := G) (I := I) (L := L) ho
  rw [rg_obj hs hc] at he
  have hv : (rg_fvs (gB G) I L o 0 h.2.2.2)[q]? = some (.int (I o q)) := by rw [rg_fvs_get, hq, Nat.zero_add]; rfl
  rcases h5 with h5 | ⟨host, h5⟩
  · exact va_get C.1 C.2.1 C.2.2.2.2.1 h3 C.2.2.2.1 C.2.2.2.2.2.1 hP o he h1 q h2 (C.2.2.2.2.1 _ h5) (by rw [h4]; exact fun _ z => z) hv d (k H locs ls hP hS hl)
  · exact va_getN C.1 C.2.1 C.2.2.2.2.1 h3 C.2.2.2.1 C.2.2.2.2.2.1 hP o he h1 q h2 (va_Nw.use rfl (C.2.2.2.2.2.2.2 _ h5)) (by rw [h4]; exact fun _ z => z) hv d (k H locs ls hP hS hl)
theorem j_getL (C : Cx p s m args meth c cc nL own G) {idx ci q z o : Nat} {h : ShT} (fl : FL own idx ci q) (ho : o < rg.1) (hs : rg.2 o = h) (hc : h.1 = ci + 6) (hq : h.2.2.2[q]? = some (1, z)) (d : decode cc pc = .ok (.getfield idx, 3)) (k : J p l e R s m args below meth c Q nL G rg kc ks I L (pc + 3) lv (.long (L o q) :: st)) : J p l e R s m args below meth c Q nL G rg kc ks I L pc lv (.ref (gB G + o) :: st) := by
  intro H locs ls hP hS hl
  obtain ⟨Cn, T, N, h1, h2, h3, h4, h5⟩ := fl
  have he := rg_at (G := G) (I := I) (L := L) ho
  rw [rg_obj hs hc] at he
  have hv : (rg_fvs (gB G) I L o 0 h.2.2.2)[q]? = some (.long (L o q)) := by rw [rg_fvs_get, hq, Nat.zero_add]; rfl
  rcases h5 with h5 | ⟨host, h5⟩
  · exact va_get C.1 C.2.1 C.2.2.2.2.1 h3 C.2.2.2.1 C.2.2.2.2.2.1 hP o he h1 q h2 (C.2.2.2.2.1 _ h5) (by rw [h4]; exact fun _ z => z) hv d (k H locs ls hP hS hl)
  · exact va_getN C.1 C.2.1 C.2.2.2.2.1 h3 C.2.2.2.1 C.2.2.2.2.2.1 hP o he h1 q h2 (va_Nw.use rfl (C.2.2.2.2.2.2.2 _ h5)) (by rw [h4]; exact fun _ z => z) hv d (k H locs ls hP hS hl)
theorem j_getR (C : Cx p s m args meth c cc nL own G) {idx ci q z o : Nat} {h : ShT} (fl : FL own idx ci q) (ho : o < rg.1) (hs : rg.2 o = h) (hc : h.1 = ci + 6) (hq : h.2.2.2[q]? = some (2, z)) (d : decode cc pc = .ok (.getfield idx, 3)) (k : J p l e R s m args below meth c Q nL G rg kc ks I L (pc + 3) lv (.ref (gB G + z) :: st)) : J p l e R s m args below meth c Q nL G rg kc ks I L pc lv (.ref (gB G + o) :: st) := by
  intro H locs ls hP hS hl
  obtain ⟨Cn, T, N, h1, h2, h3, h4, h5⟩ := fl
  have he := rg_at (G := G) (I := I) (L := L) ho
  rw [rg_obj hs hc] at he
  have hv : (rg_fvs (gB G) I L o 0 h.2.2.2)[q]? = some (.ref (gB G + z)) := by rw [rg_fvs_get, hq, Nat.zero_add]; rfl
  rcases h5 with h5 | ⟨host, h5⟩
  · exact va_get C.1 C.2.1 C.2.2.2.2.1 h3 C.2.2.2.1 C.2.2.2.2.2.1 hP o he h1 q h2 (C.2.2.2.2.1 _ h5) (by rw [h4]; exact fun _ z => z) hv d (k H locs ls hP hS hl)
  · exact va_getN C.1 C.2.1 C.2.2.2.2.1 h3 C.2.2.2.1 C.2.2.2.2.2.1 hP o he h1 q h2 (va_Nw.use rfl (C.2.2.2.2.2.2.2 _ h5)) (by rw [h4]; exact fun _ z => z) hv d (k H locs ls hP hS hl)
theorem j_putI (C : Cx p s m args meth c cc nL own G) {idx ci q z o : Nat} {h : ShT} {ty : FieldType} {v : Int32} (fl : FW own idx ci q ty) (ho : o < rg.1) (hs : rg.2 o = h) (hc : h.1 = ci + 6) (hq : h.2.2.2[q]? = some (0, z)) (hn : narrow ty (.int v) = .int v) (hfit : fits ty (.int v) = true) (d : decode cc pc = .ok (.putfield idx, 3)) (k : J p l e R s m args below meth c Q nL G rg kc ks (up2 I o q v) L (pc + 3) lv st) : J p l e R s m args below meth c Q nL G rg kc ks I L pc lv (.int v :: .ref (gB G + o) :: st) := by
  intro H locs ls hP hS hl
  obtain ⟨Cn, T, N, ty0, h1, h2, h3, h4, h5, h6, h7, h8, h9⟩ := fl
  have he := rg_at (G := G) (I := I) (L := L) ho
  rw [rg_obj hs hc] at he
  have hlen : q < (rg_fvs (gB G) I L o 0 h.2.2.2).length := by rw [rg_fvs_len]; exact (List.getElem?_eq_some_iff.mp hq).1
  have hw : (rg_W G rg I L).set o (gB G + o, .inr (ci, (rg_fvs (gB G) I L o 0 h.2.2.2).set q (.int v))) = rg_W G rg (up2 I o q v) (L) := by
    refine rg_set ho (fun w hw => ?_) (fun w hw => ?_) ?_
    · first | rfl | exact up2_ne _ hw
    · first | rfl | exact up2_ne _ hw
    · rw [rg_obj hs hc, rg_fvs_set h.2.2.2 0 q (Nat.zero_add q) hq]
  rcases h5 with h5 | ⟨host, h5⟩
  · exact va_put C.1 C.2.1 C.2.2.2.2.1 h3 ty0 h6 h7 C.2.2.2.1 C.2.2.2.2.2.1 hP rg_D hS o he h1 q h2 (C.2.2.2.2.1 _ h5) (by rw [h4]; exact fun _ z => z) h8 h9 hn hfit hlen d (fun H1 locs1 hP1 hD1 hS1 => k H1 locs1 ls (by rw [hw] at hP1; exact hP1) hS1 hl)
  · exact va_putN C.1 C.2.1 C.2.2.2.2.1 h3 ty0 h6 h7 C.2.2.2.1 C.2.2.2.2.2.1 hP rg_D hS o he h1 q h2 (va_Nw.use rfl (C.2.2.2.2.2.2.2 _ h5)) (by rw [h4]; exact fun _ z => z) h8 h9 hn hfit hlen d (fun H1 locs1 hP1 hD1 hS1 => k H1 locs1 ls (by rw [hw] at hP1; exact hP1) hS1 hl)
theorem j_putL (C : Cx p s m args meth c cc nL own G) {idx ci q z o : Nat} {h : ShT} {ty : FieldType} {v : Int64} (fl : FW own idx ci q ty) (ho : o < rg.1) (hs : rg.2 o = h) (hc : h.1 = ci + 6) (hq : h.2.2.2[q]? = some (1, z)) (hn : narrow ty (.long v) = .long v) (hfit : fits ty (.long v) = true) (d : decode cc pc = .ok (.putfield idx, 3)) (k : J p l e R s m args below meth c Q nL G rg kc ks I (up2 L o q v) (pc + 3) lv st) : J p l e R s m args below meth c Q nL G rg kc ks I L pc lv (.long v :: .ref (gB G + o) :: st) := by
  intro H locs ls hP hS hl
  obtain ⟨Cn, T, N, ty0, h1, h2, h3, h4, h5, h6, h7, h8, h9⟩ := fl
  have he := rg_at (G := G) (I := I) (L := L) ho
  rw [rg_obj hs hc] at he
  have hlen : q < (rg_fvs (gB G) I L o 0 h.2.2.2).length := by rw [rg_fvs_len]; exact (List.getElem?_eq_some_iff.mp hq).1
  have hw : (rg_W G rg I L).set o (gB G + o, .inr (ci, (rg_fvs (gB G) I L o 0 h.2.2.2).set q (.long v))) = rg_W G rg (I) (up2 L o q v) := by
    refine rg_set ho (fun w hw => ?_) (fun w hw => ?_) ?_
    · first | rfl | exact up2_ne _ hw
    · first | rfl | exact up2_ne _ hw
    · rw [rg_obj hs hc, rg_fvs_setL h.2.2.2 0 q (Nat.zero_add q) hq]
  rcases h5 with h5 | ⟨host, h5⟩
  · exact va_put C.1 C.2.1 C.2.2.2.2.1 h3 ty0 h6 h7 C.2.2.2.1 C.2.2.2.2.2.1 hP rg_D hS o he h1 q h2 (C.2.2.2.2.1 _ h5) (by rw [h4]; exact fun _ z => z) h8 h9 hn hfit hlen d (fun H1 locs1 hP1 hD1 hS1 => k H1 locs1 ls (by rw [hw] at hP1; exact hP1) hS1 hl)
  · exact va_putN C.1 C.2.1 C.2.2.2.2.1 h3 ty0 h6 h7 C.2.2.2.1 C.2.2.2.2.2.1 hP rg_D hS o he h1 q h2 (va_Nw.use rfl (C.2.2.2.2.2.2.2 _ h5)) (by rw [h4]; exact fun _ z => z) h8 h9 hn hfit hlen d (fun H1 locs1 hP1 hD1 hS1 => k H1 locs1 ls (by rw [hw] at hP1; exact hP1) hS1 hl)
theorem j_iald (C : Cx p s m args meth c cc nL own G) {o : Nat} {h : ShT} {i : Int32} (ho : o < rg.1) (hs : rg.2 o = h) (hc : h.1 = 0) (hin : vp_in i h.2.1) (d : decode cc pc = .ok (.iaload, 1)) (k : J p l e R s m args below meth c Q nL G rg kc ks I L (pc + 1) lv (.int (I o i.toNatClampNeg) :: st)) : J p l e R s m args below meth c Q nL G rg kc ks I L pc lv (.int i :: .ref (gB G + o) :: st) := by
  intro H locs ls hP hS hl
  have he := rg_at (G := G) (I := I) (L := L) ho
  rw [hs] at he
  have hcell : rg_cell G I L o h = .inl (G.2.1 0, h.2.1, .inl (I o)) := by simp [rg_cell, hc]
  rw [hcell] at he
  exact va_iald C.1 C.2.1 C.2.2.2.2.2.1 hP o 0 he rfl hin d (k H locs ls hP hS hl)
theorem j_lald (C : Cx p s m args meth c cc nL own G) {o : Nat} {h : ShT} {i : Int32} (ho : o < rg.1) (hs : rg.2 o = h) (hc : h.1 = 1) (hin : vp_in i h.2.1) (d : decode cc pc = .ok (.laload, 1)) (k : J p l e R s m args below meth c Q nL G rg kc ks I L (pc + 1) lv (.long (L o i.toNatClampNeg) :: st)) : J p l e R s m args below meth c Q nL G rg kc ks I L pc lv (.int i :: .ref (gB G + o) :: st) := by
  intro H locs ls hP hS hl
  have he := rg_at (G := G) (I := I) (L := L) ho
  rw [hs] at he
  have hcell : rg_cell G I L o h = .inl (G.2.1 1, h.2.1, .inr (.inl (L o))) := by simp [rg_cell, hc]
  rw [hcell] at he
  exact va_lald C.1 C.2.1 C.2.2.2.2.2.1 hP o 1 he rfl hin d (k H locs ls hP hS hl)
theorem j_zald (C : Cx p s m args meth c cc nL own G) {o : Nat} {h : ShT} {i : Int32} (ho : o < rg.1) (hs : rg.2 o = h) (hc : h.1 = 2) (hin : vp_in i h.2.1) (d : decode cc pc = .ok (.baload, 1)) (k : J p l e R s m args below meth c Q nL G rg kc ks I L (pc + 1) lv (.int (I o i.toNatClampNeg) :: st)) : J p l e R s m args below meth c Q nL G rg kc ks I L pc lv (.int i :: .ref (gB G + o) :: st) := by
  intro H locs ls hP hS hl
  have he := rg_at (G := G) (I := I) (L := L) ho
  rw [hs] at he
  have hcell : rg_cell G I L o h = .inl (G.2.1 2, h.2.1, .inl (I o)) := by simp [rg_cell, hc]
  rw [hcell] at he
  exact va_zald C.1 C.2.1 C.2.2.2.2.2.1 hP o 2 he rfl hin d (k H locs ls hP hS hl)
theorem j_aald3 (C : Cx p s m args meth c cc nL own G) {o : Nat} {h : ShT} {i : Int32} (ho : o < rg.1) (hs : rg.2 o = h) (hc : h.1 = 3) (hin : vp_in i h.2.1) {t : Nat} (ht : h.2.2.1 i.toNatClampNeg = t) (h0 : t ≠ 0) (d : decode cc pc = .ok (.aaload, 1)) (k : J p l e R s m args below meth c Q nL G rg kc ks I L (pc + 1) lv (.ref (gB G + t) :: st)) : J p l e R s m args below meth c Q nL G rg kc ks I L pc lv (.int i :: .ref (gB G + o) :: st) := by
  intro H locs ls hP hS hl
  have he := rg_at (G := G) (I := I) (L := L) ho
  rw [hs] at he
  have hcell : rg_cell G I L o h = .inl (G.2.1 3, h.2.1, .inr (.inr (.inr (.inr (fun j => rg_tg (gB G) (h.2.2.1 j)))))) := by simp [rg_cell, hc]
  rw [hcell] at he
  refine va_aldq (C := RX2) C.1 C.2.1 C.2.2.2.2.2.1 hP o 3 he rfl hin d ?_
  have hv : va_rf (rg_tg (gB G) (h.2.2.1 i.toNatClampNeg)) = .ref (gB G + t) := by rw [ht, rg_tg, if_neg h0]; rfl
  rw [hv]
  exact k H locs ls hP hS hl
theorem j_aald4 (C : Cx p s m args meth c cc nL own G) {o : Nat} {h : ShT} {i : Int32} (ho : o < rg.1) (hs : rg.2 o = h) (hc : h.1 = 4) (hin : vp_in i h.2.1) {t : Nat} (ht : h.2.2.1 i.toNatClampNeg = t) (h0 : t ≠ 0) (d : decode cc pc = .ok (.aaload, 1)) (k : J p l e R s m args below meth c Q nL G rg kc ks I L (pc + 1) lv (.ref (gB G + t) :: st)) : J p l e R s m args below meth c Q nL G rg kc ks I L pc lv (.int i :: .ref (gB G + o) :: st) := by
  intro H locs ls hP hS hl
  have he := rg_at (G := G) (I := I) (L := L) ho
  rw [hs] at he
  have hcell : rg_cell G I L o h = .inl (G.2.1 4, h.2.1, .inr (.inr (.inr (.inr (fun j => rg_tg (gB G) (h.2.2.1 j)))))) := by simp [rg_cell, hc]
  rw [hcell] at he
  refine va_aldq (C := RX5) C.1 C.2.1 C.2.2.2.2.2.1 hP o 4 he rfl hin d ?_
  have hv : va_rf (rg_tg (gB G) (h.2.2.1 i.toNatClampNeg)) = .ref (gB G + t) := by rw [ht, rg_tg, if_neg h0]; rfl
  rw [hv]
  exact k H locs ls hP hS hl
theorem j_aald5 (C : Cx p s m args meth c cc nL own G) {o : Nat} {h : ShT} {i : Int32} (ho : o < rg.1) (hs : rg.2 o = h) (hc : h.1 = 5) (hin : vp_in i h.2.1) {t : Nat} (ht : h.2.2.1 i.toNatClampNeg = t) (h0 : t ≠ 0) (d : decode cc pc = .ok (.aaload, 1)) (k : J p l e R s m args below meth c Q nL G rg kc ks I L (pc + 1) lv (.ref (gB G + t) :: st)) : J p l e R s m args below meth c Q nL G rg kc ks I L pc lv (.int i :: .ref (gB G + o) :: st) := by
  intro H locs ls hP hS hl
  have he := rg_at (G := G) (I := I) (L := L) ho
  rw [hs] at he
  have hcell : rg_cell G I L o h = .inl (G.2.1 5, h.2.1, .inr (.inr (.inr (.inr (fun j => rg_tg (gB G) (h.2.2.1 j)))))) := by simp [rg_cell, hc]
  rw [hcell] at he
  refine va_aldq (C := RX1) C.1 C.2.1 C.2.2.2.2.2.1 hP o 5 he rfl hin d ?_
  have hv : va_rf (rg_tg (gB G) (h.2.2.1 i.toNatClampNeg)) = .ref (gB G + t) := by rw [ht, rg_tg, if_neg h0]; rfl
  rw [hv]
  exact k H locs ls hP hS hl
theorem j_iast (C : Cx p s m args meth c cc nL own G) {o : Nat} {h : ShT} {i : Int32} {x : Int32} (ho : o < rg.1) (hs : rg.2 o = h) (hc : h.1 = 0) (hin : vp_in i h.2.1)  (d : decode cc pc = .ok (.iastore, 1)) (k : J p l e R s m args below meth c Q nL G rg kc ks (up2 I o i.toNatClampNeg x) L (pc + 1) lv st) : J p l e R s m args below meth c Q nL G rg kc ks I L pc lv (.int x :: .int i :: .ref (gB G + o) :: st) := by
  intro H locs ls hP hS hl
  have he := rg_at (G := G) (I := I) (L := L) ho
  rw [hs] at he
  have hcell : rg_cell G I L o h = .inl (G.2.1 0, h.2.1, .inl (I o)) := by simp [rg_cell, hc]
  rw [hcell] at he
  have hw : (rg_W G rg I L).set o (gB G + o, .inl (G.2.1 0, h.2.1, .inl (upd (I o) i.toNatClampNeg x))) = rg_W G rg (up2 I o i.toNatClampNeg x) (L) := by
    refine rg_set ho (fun w hw => ?_) (fun w hw => ?_) ?_
    · first | rfl | exact up2_ne _ hw
    · first | rfl | exact up2_ne _ hw
    · rw [hs]
      simp only [rg_cell, hc, up2, va_up_self]
      simp
      try rfl
  exact va_iast C.1 C.2.1 C.2.2.2.2.2.1 hP rg_D hS o 0 he rfl hin d (fun H1 locs1 hP1 hD1 hS1 => k H1 locs1 ls (by  rw [hw] at hP1; exact hP1) hS1 hl)
theorem j_last (C : Cx p s m args meth c cc nL own G) {o : Nat} {h : ShT} {i : Int32} {x : Int64} (ho : o < rg.1) (hs : rg.2 o = h) (hc : h.1 = 1) (hin : vp_in i h.2.1)  (d : decode cc pc = .ok (.lastore, 1)) (k : J p l e R s m args below meth c Q nL G rg kc ks I (up2 L o i.toNatClampNeg x) (pc + 1) lv st) : J p l e R s m args below meth c Q nL G rg kc ks I L pc lv (.long x :: .int i :: .ref (gB G + o) :: st) := by
  intro H locs ls hP hS hl
  have he := rg_at (G := G) (I := I) (L := L) ho
  rw [hs] at he
  have hcell : rg_cell G I L o h = .inl (G.2.1 1, h.2.1, .inr (.inl (L o))) := by simp [rg_cell, hc]
  rw [hcell] at he
  have hw : (rg_W G rg I L).set o (gB G + o, .inl (G.2.1 1, h.2.1, .inr (.inl (vp_updL (L o) i.toNatClampNeg x)))) = rg_W G rg (I) (up2 L o i.toNatClampNeg x) := by
    refine rg_set ho (fun w hw => ?_) (fun w hw => ?_) ?_
    · first | rfl | exact up2_ne _ hw
    · first | rfl | exact up2_ne _ hw
    · rw [hs]
      simp only [rg_cell, hc, up2, va_up_self]
      simp
      try rfl
  exact va_last C.1 C.2.1 C.2.2.2.2.2.1 hP rg_D hS o 1 he rfl hin d (fun H1 locs1 hP1 hD1 hS1 => k H1 locs1 ls (by  rw [hw] at hP1; exact hP1) hS1 hl)
theorem j_zast (C : Cx p s m args meth c cc nL own G) {o : Nat} {h : ShT} {i : Int32} {x : Int32} (ho : o < rg.1) (hs : rg.2 o = h) (hc : h.1 = 2) (hin : vp_in i h.2.1) (hnar : vp_nar .boolean x = x) (d : decode cc pc = .ok (.bastore, 1)) (k : J p l e R s m args below meth c Q nL G rg kc ks (up2 I o i.toNatClampNeg x) L (pc + 1) lv st) : J p l e R s m args below meth c Q nL G rg kc ks I L pc lv (.int x :: .int i :: .ref (gB G + o) :: st) := by
  intro H locs ls hP hS hl
  have he := rg_at (G := G) (I := I) (L := L) ho
  rw [hs] at he
  have hcell : rg_cell G I L o h = .inl (G.2.1 2, h.2.1, .inl (I o)) := by simp [rg_cell, hc]
  rw [hcell] at he
  have hw : (rg_W G rg I L).set o (gB G + o, .inl (G.2.1 2, h.2.1, .inl (upd (I o) i.toNatClampNeg x))) = rg_W G rg (up2 I o i.toNatClampNeg x) (L) := by
    refine rg_set ho (fun w hw => ?_) (fun w hw => ?_) ?_
    · first | rfl | exact up2_ne _ hw
    · first | rfl | exact up2_ne _ hw
    · rw [hs]
      simp only [rg_cell, hc, up2, va_up_self]
      simp
      try rfl
  exact va_zast C.1 C.2.1 C.2.2.2.2.2.1 hP rg_D hS o 2 he rfl hin d (fun H1 locs1 hP1 hD1 hS1 => k H1 locs1 ls (by rw [hnar] at hP1; rw [hw] at hP1; exact hP1) hS1 hl)
theorem j_alen (C : Cx p s m args meth c cc nL own G) {o : Nat} {h : ShT} {v : Int32} (ho : o < rg.1) (hs : rg.2 o = h) (hc : h.1 < 6) (hv : Int32.ofNat h.2.1 = v) (d : decode cc pc = .ok (.arraylength, 1)) (k : J p l e R s m args below meth c Q nL G rg kc ks I L (pc + 1) lv (.int v :: st)) : J p l e R s m args below meth c Q nL G rg kc ks I L pc lv (.ref (gB G + o) :: st) := by
  intro H locs ls hP hS hl
  have he := rg_at (G := G) (I := I) (L := L) ho
  rw [hs] at he
  rcases (show h.1 = 0 ∨ h.1 = 1 ∨ h.1 = 2 ∨ h.1 = 3 ∨ h.1 = 4 ∨ h.1 = 5 by omega) with q | q | q | q | q | q
  · rw [show rg_cell G I L o h = .inl (G.2.1 0, h.2.1, .inl (I o)) by simp [rg_cell, q]] at he
    exact va_alen C.1 C.2.1 C.2.2.2.2.2.1 hP o 0 he rfl hv d (k H locs ls hP hS hl)
  · rw [show rg_cell G I L o h = .inl (G.2.1 1, h.2.1, .inr (.inl (L o))) by simp [rg_cell, q]] at he
    exact va_alen C.1 C.2.1 C.2.2.2.2.2.1 hP o 1 he rfl hv d (k H locs ls hP hS hl)
  · rw [show rg_cell G I L o h = .inl (G.2.1 2, h.2.1, .inl (I o)) by simp [rg_cell, q]] at he
    exact va_alen C.1 C.2.1 C.2.2.2.2.2.1 hP o 2 he rfl hv d (k H locs ls hP hS hl)
  · rw [show rg_cell G I L o h = .inl (G.2.1 3, h.2.1, .inr (.inr (.inr (.inr (fun j => rg_tg (gB G) (h.2.2.1 j)))))) by simp [rg_cell, q]] at he
    exact va_alen C.1 C.2.1 C.2.2.2.2.2.1 hP o 3 he rfl hv d (k H locs ls hP hS hl)
  · rw [show rg_cell G I L o h = .inl (G.2.1 4, h.2.1, .inr (.inr (.inr (.inr (fun j => rg_tg (gB G) (h.2.2.1 j)))))) by simp [rg_cell, q]] at he
    exact va_alen C.1 C.2.1 C.2.2.2.2.2.1 hP o 4 he rfl hv d (k H locs ls hP hS hl)
  · rw [show rg_cell G I L o h = .inl (G.2.1 5, h.2.1, .inr (.inr (.inr (.inr (fun j => rg_tg (gB G) (h.2.2.1 j)))))) by simp [rg_cell, q]] at he
    exact va_alen C.1 C.2.1 C.2.2.2.2.2.1 hP o 5 he rfl hv d (k H locs ls hP hS hl)
end JROWS
