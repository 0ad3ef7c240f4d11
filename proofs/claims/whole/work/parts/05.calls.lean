/-! ===== contracts over a region, calls, ends ===== -/
def preR (G : GT) (rg : RgT) (I : II) (L : LL) (U : State) : Prop := va_P G.1 vwCl (rg_W G rg I L) U.heap ∧ va_K G.1 vwCl (gTys G) U ∧ NW U
def rmD (d : Nat) : Room := { frames := d, cells := 0, slots := 0, locals := 34 * d }
def wsOf (y : MethodName) (cc : ByteArray) (nL : Nat) (ret : Option FieldType) : List Cond := Cond.code y cc nL ret :: tblG
def QI (G : GT) (rg : RgT) (post : Int32 → II → LL → Prop) : Array Value → State → Outcome → State → Prop := va_Qi (fun r (u : II × LL) => post r u.1 u.2) (fun u t => preR G rg u.1 u.2 t) (rg_A G rg)
def QL (G : GT) (rg : RgT) (post : Int64 → II → LL → Prop) : Array Value → State → Outcome → State → Prop := va_Ql (fun r (u : II × LL) => post r u.1 u.2) (fun u t => preR G rg u.1 u.2 t) (rg_A G rg)
def QV (G : GT) (rg : RgT) (post : II → LL → Prop) : Array Value → State → Outcome → State → Prop := va_Qv (fun (u : II × LL) => post u.1 u.2) (fun u t => preR G rg u.1 u.2 t) (rg_A G rg)
def QR (G : GT) (rg : RgT) (post : Nat → II → LL → Prop) : Array Value → State → Outcome → State → Prop := va_Qr (fun (u : Nat × II × LL) => post u.1 u.2.1 u.2.2) (fun u a t => a = gB G + u.1 ∧ preR G rg u.2.1 u.2.2 t) (rg_A G rg)
theorem preR_blind {G : GT} {rg : RgT} {I : II} {L : LL} {av : List Value} : FrameBlind (va_Pc av (preR G rg I L)) := fun a U g mk q => ⟨q.1, q.2.1, va_K.moved (u := U) (U := U.calling g mk a) (Vm.Alike.refl U.vm) q.2.2.1, NW.same (u := U) (U := U.calling g mk a) rfl q.2.2.2⟩
theorem tbl_in {y : MethodName} {cc : ByteArray} {nL : Nat} {ret : Option FieldType} (h : Cond.code y cc nL ret ∈ tblG) : GoodIn tblG (wsOf y cc nL ret) := by
  intro w hw
  have hm : w ∈ tblG := by
    rcases List.mem_cons.mp hw with rfl | q
    · exact h
    · exact q
  exact ⟨hm, good_of_word (List.mem_filter.mp hm).2⟩
/-- a call of an instance method of class ci at idx of own's pool -/
def VC (own : String) (idx ci : Nat) (y : MethodName) (cc : ByteArray) (nL : Nat) (ret : Option FieldType) (n : Nat) : Prop :=
  ∃ (T : u_T) (N : Nat), vwCl[ci]? = some (y.cls, T, N) ∧ (y.cls ≠ "java/lang/invoke/MethodHandle" ∧ y.cls ≠ "java/lang/invoke/VarHandle" ∧ (parseMethodDescriptor y.desc).map (fun d => d.parameters.length) = some n) ∧ nL ≤ 15 ∧ Cond.code y cc nL ret ∈ tblG ∧ Cond.instanceMethod y ∈ tblG ∧ Cond.selects y.cls y y ∈ tblG ∧ Cond.initialized y.cls ∈ tblG ∧ (Cond.methodLink own idx y ∈ tblG ∨ ∃ host, Cond.methodLinkNest own idx y host ∈ xw)
/-- a call of a static method -/
def SC (own : String) (idx : Nat) (y : MethodName) (cc : ByteArray) (nL : Nat) (ret : Option FieldType) (n : Nat) : Prop :=
  (y.cls ≠ "java/lang/invoke/MethodHandle" ∧ y.cls ≠ "java/lang/invoke/VarHandle" ∧ (parseMethodDescriptor y.desc).map (fun d => d.parameters.length) = some n) ∧ nL ≤ 15 ∧ Cond.code y cc nL ret ∈ tblG ∧ Cond.static y ∈ tblG ∧ Cond.initialized y.cls ∈ tblG ∧ (Cond.methodLink own idx y ∈ tblG ∨ ∃ host, Cond.methodLinkNest own idx y host ∈ xw)

def CtI (l : Launch) (y : MethodName) (cc : ByteArray) (nL : Nat) (ret : Option FieldType) (d : Nat) (G : GT) (rg : RgT) (I : II) (L : LL) (av : List Value) (post : Int32 → II → LL → Prop) : Prop := Met l y (wsOf y cc nL ret) (rmD d) (va_Pc av (preR G rg I L)) (QI G rg post) 0 0 (rg_A G rg)
theorem ctI_of {l : Launch} {y : MethodName} {cc : ByteArray} {nL : Nat} {ret : Option FieldType} {d : Nat} {G : GT} {rg : RgT} {I : II} {L : LL} {av : List Value} {post : Int32 → II → LL → Prop} (lv : LV) (hlv : asl 0 lv = lv_args 0 av) (hlen : (lg_sl av).length ≤ nL) (hy : plainName y.cls = true)
    (body : ∀ (p : Program) (e : Env) (s : State) (m : MethodId) (args : Array Value) (below : List Frame) (meth : Method) (c : Code), Cx p s m args meth c cc nL y.cls G → meth.sig.returnType = ret → J p l e (rmD d) s m args below meth c (MQ below (QI G rg post) args s 0 0 (rg_A G rg)) nL G rg 0 0 I L 0 lv []) : CtI l y cc nL ret d G rg I L av post := by
  refine Met.ofW (cc := cc) (maxL := nL) (ret := ret) hy rfl ?_
  intro p e s m args below meth c s₁ B hml hv
  obtain ⟨rfl, hP, hK, hNW⟩ := hv
  have hts : ∀ w ∈ wsOf y cc nL ret, w.before av.toArray s = true := atoms_spec (ws := wsOf y cc nL ret) B.pre
  have hown : s.vm.findClass y.cls = some m.cls := findClass_of_methodNamed B.named
  have hl := lv_entry av (n := nL) hlen
  rw [lg_entry_eq]
  refine body p e s m _ below meth c ⟨B.exec, B.bytes, hml, hown, fun w hw => hts w (List.mem_cons_of_mem _ hw), hK, B.notSynchronized, hNW⟩ B.returns s.heap [] _ hP va_S.rf ?_
  rw [hlv]
  exact hl
theorem j_cvI {p : Program} {l : Launch} {e : Env} {R : Room} {s : State} {m : MethodId} {args : Array Value} {below : List Frame} {meth : Method} {c : Code} {Q : State → Prop} {cc : ByteArray} {nL : Nat} {own : String} {G : GT} {rg : RgT} {kc ks : Nat} {I : II} {L : LL} {pc : Nat} {lv : LV} {st rest As : List Value} {idx ci n d o : Nat} {y : MethodName} {cb : ByteArray} {nb : Nat} {ret : Option FieldType} {h : ShT} {post : Int32 → II → LL → Prop} (C : Cx p s m args meth c cc nL own G) (vc : VC own idx ci y cb nb ret n) (hM : CtI l y cb nb ret d G rg I L (.ref (gB G + o) :: As) post) (hR : d + 1 ≤ R.frames ∧ 34 * d + 34 ≤ R.locals) (ho : o < rg.1) (hs : rg.2 o = h) (hc : h.1 = ci + 6) (hn : As.length = n) (hst : st = As.reverse ++ .ref (gB G + o) :: rest) (hW : (rest.map fun v => v.category).sum ≤ 8) (hr : kc ≤ R.cells ∧ ks ≤ R.slots) (dd : decode cc pc = .ok (.invokevirtual idx, 3)) (kk : ∀ (r : Int32) (I1 : II) (L1 : LL), post r I1 L1 → J p l e R s m args below meth c Q nL G rg kc ks I1 L1 (pc + 3) lv (.int r :: rest)) : J p l e R s m args below meth c Q nL G rg kc ks I L pc lv st := by
  intro H locs ls hP hS hl
  obtain ⟨hx, hb, hml, hown, hts, hK, hlk, hNW⟩ := C
  obtain ⟨T, N, h1, h2, h3, h4, h5, h6, h7, h8⟩ := vc
  have he := rg_at (G := G) (I := I) (L := L) ho
  rw [rg_obj hs hc] at he
  have hrec := va_recv hK hP h1 he
  have hpre : PreV s H y.cls (gB G + o) (va_Pc (.ref (gB G + o) :: As) (preR G rg I L)) As := ⟨preR_blind, hrec, fun U hU hW => ⟨rfl, by rw [hU]; exact hP, va_K.moved hW.alike hK, hNW.warm hW⟩⟩
  have hroom : (rmD d).frames + 1 ≤ R.frames ∧ 8 + (nb + 11) + (rmD d).locals ≤ R.locals := ⟨hR.1, by show 8 + (nb + 11) + 34 * d ≤ R.locals; omega⟩
  have hin : (Cond.instanceMethod y).before args s = true := hts _ h5
  have hse : (Cond.selects y.cls y y).before args s = true := hts _ h6
  have hA0 : ∀ q, q < H.size → rg_A G rg q → rg_A G rg q := fun _ _ z => z
  have hA1 : ∀ q, rg_A G rg q → rg_A G rg q := fun _ z => z
  rcases h8 with h8 | ⟨host, h8⟩
  · exact va_calli (va_runV (As := As) (rest := rest) ⟨hx, hb, hml, hown, hts⟩ hM ⟨callB_of n hts (tbl_in h4) rfl rfl rfl (hts _ h7) (hts _ h8) h2 hroom, hin, hse⟩ hpre rfl hn hl.1 hst (lv_room hW) dd hr) hS hA0 hA1 (fun r u t H1 locs1 ht hvm hp hb _ _ hS1 => by obtain ⟨I1, L1⟩ := u; obtain ⟨hb1, hb2, hb3⟩ := hb; rw [ht] at hb1; exact kk r I1 L1 hp H1 locs1 ls hb1 hS1 hl)
  · exact va_calli (va_runVN (As := As) (rest := rest) (host := host) ⟨hx, hb, hml, hown, hts⟩ hM ⟨va_cnB n hts (tbl_in h4) rfl rfl rfl (hNW _ h8) (hts _ h7) h2 hroom, hin, hse⟩ hpre rfl hn hl.1 hst (lv_room hW) dd hr) hS hA0 hA1 (fun r u t H1 locs1 ht hvm hp hb _ _ hS1 => by obtain ⟨I1, L1⟩ := u; obtain ⟨hb1, hb2, hb3⟩ := hb; rw [ht] at hb1; exact kk r I1 L1 hp H1 locs1 ls hb1 hS1 hl)
theorem j_csI {p : Program} {l : Launch} {e : Env} {R : Room} {s : State} {m : MethodId} {args : Array Value} {below : List Frame} {meth : Method} {c : Code} {Q : State → Prop} {cc : ByteArray} {nL : Nat} {own : String} {G : GT} {rg : RgT} {kc ks : Nat} {I : II} {L : LL} {pc : Nat} {lv : LV} {st rest As : List Value} {idx n d : Nat} {y : MethodName} {cb : ByteArray} {nb : Nat} {ret : Option FieldType} {post : Int32 → II → LL → Prop} (C : Cx p s m args meth c cc nL own G) (vc : SC own idx y cb nb ret n) (hM : CtI l y cb nb ret d G rg I L As post) (hR : d + 1 ≤ R.frames ∧ 34 * d + 34 ≤ R.locals) (hn : As.length = n) (hst : st = As.reverse ++ rest) (hW : (rest.map fun v => v.category).sum ≤ 8) (hr : kc ≤ R.cells ∧ ks ≤ R.slots) (dd : decode cc pc = .ok (.invokestatic idx, 3)) (kk : ∀ (r : Int32) (I1 : II) (L1 : LL), post r I1 L1 → J p l e R s m args below meth c Q nL G rg kc ks I1 L1 (pc + 3) lv (.int r :: rest)) : J p l e R s m args below meth c Q nL G rg kc ks I L pc lv st := by
  intro H locs ls hP hS hl
  obtain ⟨hx, hb, hml, hown, hts, hK, hlk, hNW⟩ := C
  obtain ⟨h2, h3, h4, h5, h7, h8⟩ := vc
  have hpre : PreS s H (va_Pc As (preR G rg I L)) As := ⟨preR_blind, fun U hU hW => ⟨rfl, by rw [hU]; exact hP, va_K.moved hW.alike hK, hNW.warm hW⟩⟩
  have hroom : (rmD d).frames + 1 ≤ R.frames ∧ 8 + (nb + 11) + (rmD d).locals ≤ R.locals := ⟨hR.1, by show 8 + (nb + 11) + 34 * d ≤ R.locals; omega⟩
  have hin : (Cond.static y).before args s = true := hts _ h5
  have hA0 : ∀ q, q < H.size → rg_A G rg q → rg_A G rg q := fun _ _ z => z
  have hA1 : ∀ q, rg_A G rg q → rg_A G rg q := fun _ z => z
  rcases h8 with h8 | ⟨host, h8⟩
  · exact va_calli (va_runS (As := As) (rest := rest) ⟨hx, hb, hml, hown, hts⟩ hM ⟨callB_of n hts (tbl_in h4) rfl rfl rfl (hts _ h7) (hts _ h8) h2 hroom, hin⟩ hpre rfl hn hl.1 hst (lv_room hW) dd hr) hS hA0 hA1 (fun r u t H1 locs1 ht hvm hp hb _ _ hS1 => by obtain ⟨I1, L1⟩ := u; obtain ⟨hb1, hb2, hb3⟩ := hb; rw [ht] at hb1; exact kk r I1 L1 hp H1 locs1 ls hb1 hS1 hl)
  · exact va_calli (va_runSN (As := As) (rest := rest) (host := host) ⟨hx, hb, hml, hown, hts⟩ hM ⟨va_cnB n hts (tbl_in h4) rfl rfl rfl (hNW _ h8) (hts _ h7) h2 hroom, hin, trivial⟩ hpre rfl hn hl.1 hst (lv_room hW) dd hr) hS hA0 hA1 (fun r u t H1 locs1 ht hvm hp hb _ _ hS1 => by obtain ⟨I1, L1⟩ := u; obtain ⟨hb1, hb2, hb3⟩ := hb; rw [ht] at hb1; exact kk r I1 L1 hp H1 locs1 ls hb1 hS1 hl)
def CtL (l : Launch) (y : MethodName) (cc : ByteArray) (nL : Nat) (ret : Option FieldType) (d : Nat) (G : GT) (rg : RgT) (I : II) (L : LL) (av : List Value) (post : Int64 → II → LL → Prop) : Prop := Met l y (wsOf y cc nL ret) (rmD d) (va_Pc av (preR G rg I L)) (QL G rg post) 0 0 (rg_A G rg)
theorem ctL_of {l : Launch} {y : MethodName} {cc : ByteArray} {nL : Nat} {ret : Option FieldType} {d : Nat} {G : GT} {rg : RgT} {I : II} {L : LL} {av : List Value} {post : Int64 → II → LL → Prop} (lv : LV) (hlv : asl 0 lv = lv_args 0 av) (hlen : (lg_sl av).length ≤ nL) (hy : plainName y.cls = true)
    (body : ∀ (p : Program) (e : Env) (s : State) (m : MethodId) (args : Array Value) (below : List Frame) (meth : Method) (c : Code), Cx p s m args meth c cc nL y.cls G → meth.sig.returnType = ret → J p l e (rmD d) s m args below meth c (MQ below (QL G rg post) args s 0 0 (rg_A G rg)) nL G rg 0 0 I L 0 lv []) : CtL l y cc nL ret d G rg I L av post := by
  refine Met.ofW (cc := cc) (maxL := nL) (ret := ret) hy rfl ?_
  intro p e s m args below meth c s₁ B hml hv
  obtain ⟨rfl, hP, hK, hNW⟩ := hv
  have hts : ∀ w ∈ wsOf y cc nL ret, w.before av.toArray s = true := atoms_spec (ws := wsOf y cc nL ret) B.pre
  have hown : s.vm.findClass y.cls = some m.cls := findClass_of_methodNamed B.named
  have hl := lv_entry av (n := nL) hlen
  rw [lg_entry_eq]
  refine body p e s m _ below meth c ⟨B.exec, B.bytes, hml, hown, fun w hw => hts w (List.mem_cons_of_mem _ hw), hK, B.notSynchronized, hNW⟩ B.returns s.heap [] _ hP va_S.rf ?_
  rw [hlv]
  exact hl
theorem j_cvL {p : Program} {l : Launch} {e : Env} {R : Room} {s : State} {m : MethodId} {args : Array Value} {below : List Frame} {meth : Method} {c : Code} {Q : State → Prop} {cc : ByteArray} {nL : Nat} {own : String} {G : GT} {rg : RgT} {kc ks : Nat} {I : II} {L : LL} {pc : Nat} {lv : LV} {st rest As : List Value} {idx ci n d o : Nat} {y : MethodName} {cb : ByteArray} {nb : Nat} {ret : Option FieldType} {h : ShT} {post : Int64 → II → LL → Prop} (C : Cx p s m args meth c cc nL own G) (vc : VC own idx ci y cb nb ret n) (hM : CtL l y cb nb ret d G rg I L (.ref (gB G + o) :: As) post) (hR : d + 1 ≤ R.frames ∧ 34 * d + 34 ≤ R.locals) (ho : o < rg.1) (hs : rg.2 o = h) (hc : h.1 = ci + 6) (hn : As.length = n) (hst : st = As.reverse ++ .ref (gB G + o) :: rest) (hW : (rest.map fun v => v.category).sum ≤ 8) (hr : kc ≤ R.cells ∧ ks ≤ R.slots) (dd : decode cc pc = .ok (.invokevirtual idx, 3)) (kk : ∀ (r : Int64) (I1 : II) (L1 : LL), post r I1 L1 → J p l e R s m args below meth c Q nL G rg kc ks I1 L1 (pc + 3) lv (.long r :: rest)) : J p l e R s m args below meth c Q nL G rg kc ks I L pc lv st := by
  intro H locs ls hP hS hl
  obtain ⟨hx, hb, hml, hown, hts, hK, hlk, hNW⟩ := C
  obtain ⟨T, N, h1, h2, h3, h4, h5, h6, h7, h8⟩ := vc
  have he := rg_at (G := G) (I := I) (L := L) ho
  rw [rg_obj hs hc] at he
  have hrec := va_recv hK hP h1 he
  have hpre : PreV s H y.cls (gB G + o) (va_Pc (.ref (gB G + o) :: As) (preR G rg I L)) As := ⟨preR_blind, hrec, fun U hU hW => ⟨rfl, by rw [hU]; exact hP, va_K.moved hW.alike hK, hNW.warm hW⟩⟩
  have hroom : (rmD d).frames + 1 ≤ R.frames ∧ 8 + (nb + 11) + (rmD d).locals ≤ R.locals := ⟨hR.1, by show 8 + (nb + 11) + 34 * d ≤ R.locals; omega⟩
  have hin : (Cond.instanceMethod y).before args s = true := hts _ h5
  have hse : (Cond.selects y.cls y y).before args s = true := hts _ h6
  have hA0 : ∀ q, q < H.size → rg_A G rg q → rg_A G rg q := fun _ _ z => z
  have hA1 : ∀ q, rg_A G rg q → rg_A G rg q := fun _ z => z
  rcases h8 with h8 | ⟨host, h8⟩
  · exact va_calll (va_runV (As := As) (rest := rest) ⟨hx, hb, hml, hown, hts⟩ hM ⟨callB_of n hts (tbl_in h4) rfl rfl rfl (hts _ h7) (hts _ h8) h2 hroom, hin, hse⟩ hpre rfl hn hl.1 hst (lv_room hW) dd hr) hS hA0 hA1 (fun r u t H1 locs1 ht hvm hp hb _ _ hS1 => by obtain ⟨I1, L1⟩ := u; obtain ⟨hb1, hb2, hb3⟩ := hb; rw [ht] at hb1; exact kk r I1 L1 hp H1 locs1 ls hb1 hS1 hl)
  · exact va_calll (va_runVN (As := As) (rest := rest) (host := host) ⟨hx, hb, hml, hown, hts⟩ hM ⟨va_cnB n hts (tbl_in h4) rfl rfl rfl (hNW _ h8) (hts _ h7) h2 hroom, hin, hse⟩ hpre rfl hn hl.1 hst (lv_room hW) dd hr) hS hA0 hA1 (fun r u t H1 locs1 ht hvm hp hb _ _ hS1 => by obtain ⟨I1, L1⟩ := u; obtain ⟨hb1, hb2, hb3⟩ := hb; rw [ht] at hb1; exact kk r I1 L1 hp H1 locs1 ls hb1 hS1 hl)
theorem j_csL {p : Program} {l : Launch} {e : Env} {R : Room} {s : State} {m : MethodId} {args : Array Value} {below : List Frame} {meth : Method} {c : Code} {Q : State → Prop} {cc : ByteArray} {nL : Nat} {own : String} {G : GT} {rg : RgT} {kc ks : Nat} {I : II} {L : LL} {pc : Nat} {lv : LV} {st rest As : List Value} {idx n d : Nat} {y : MethodName} {cb : ByteArray} {nb : Nat} {ret : Option FieldType} {post : Int64 → II → LL → Prop} (C : Cx p s m args meth c cc nL own G) (vc : SC own idx y cb nb ret n) (hM : CtL l y cb nb ret d G rg I L As post) (hR : d + 1 ≤ R.frames ∧ 34 * d + 34 ≤ R.locals) (hn : As.length = n) (hst : st = As.reverse ++ rest) (hW : (rest.map fun v => v.category).sum ≤ 8) (hr : kc ≤ R.cells ∧ ks ≤ R.slots) (dd : decode cc pc = .ok (.invokestatic idx, 3)) (kk : ∀ (r : Int64) (I1 : II) (L1 : LL), post r I1 L1 → J p l e R s m args below meth c Q nL G rg kc ks I1 L1 (pc + 3) lv (.long r :: rest)) : J p l e R s m args below meth c Q nL G rg kc ks I L pc lv st := by
  intro H locs ls hP hS hl
  obtain ⟨hx, hb, hml, hown, hts, hK, hlk, hNW⟩ := C
  obtain ⟨h2, h3, h4, h5, h7, h8⟩ := vc
  have hpre : PreS s H (va_Pc As (preR G rg I L)) As := ⟨preR_blind, fun U hU hW => ⟨rfl, by rw [hU]; exact hP, va_K.moved hW.alike hK, hNW.warm hW⟩⟩
  have hroom : (rmD d).frames + 1 ≤ R.frames ∧ 8 + (nb + 11) + (rmD d).locals ≤ R.locals := ⟨hR.1, by show 8 + (nb + 11) + 34 * d ≤ R.locals; omega⟩
  have hin : (Cond.static y).before args s = true := hts _ h5
  have hA0 : ∀ q, q < H.size → rg_A G rg q → rg_A G rg q := fun _ _ z => z
  have hA1 : ∀ q, rg_A G rg q → rg_A G rg q := fun _ z => z
  rcases h8 with h8 | ⟨host, h8⟩
  · exact va_calll (va_runS (As := As) (rest := rest) ⟨hx, hb, hml, hown, hts⟩ hM ⟨callB_of n hts (tbl_in h4) rfl rfl rfl (hts _ h7) (hts _ h8) h2 hroom, hin⟩ hpre rfl hn hl.1 hst (lv_room hW) dd hr) hS hA0 hA1 (fun r u t H1 locs1 ht hvm hp hb _ _ hS1 => by obtain ⟨I1, L1⟩ := u; obtain ⟨hb1, hb2, hb3⟩ := hb; rw [ht] at hb1; exact kk r I1 L1 hp H1 locs1 ls hb1 hS1 hl)
  · exact va_calll (va_runSN (As := As) (rest := rest) (host := host) ⟨hx, hb, hml, hown, hts⟩ hM ⟨va_cnB n hts (tbl_in h4) rfl rfl rfl (hNW _ h8) (hts _ h7) h2 hroom, hin, trivial⟩ hpre rfl hn hl.1 hst (lv_room hW) dd hr) hS hA0 hA1 (fun r u t H1 locs1 ht hvm hp hb _ _ hS1 => by obtain ⟨I1, L1⟩ := u; obtain ⟨hb1, hb2, hb3⟩ := hb; rw [ht] at hb1; exact kk r I1 L1 hp H1 locs1 ls hb1 hS1 hl)
def CtV (l : Launch) (y : MethodName) (cc : ByteArray) (nL : Nat) (ret : Option FieldType) (d : Nat) (G : GT) (rg : RgT) (I : II) (L : LL) (av : List Value) (post : II → LL → Prop) : Prop := Met l y (wsOf y cc nL ret) (rmD d) (va_Pc av (preR G rg I L)) (QV G rg post) 0 0 (rg_A G rg)
theorem ctV_of {l : Launch} {y : MethodName} {cc : ByteArray} {nL : Nat} {ret : Option FieldType} {d : Nat} {G : GT} {rg : RgT} {I : II} {L : LL} {av : List Value} {post : II → LL → Prop} (lv : LV) (hlv : asl 0 lv = lv_args 0 av) (hlen : (lg_sl av).length ≤ nL) (hy : plainName y.cls = true)
    (body : ∀ (p : Program) (e : Env) (s : State) (m : MethodId) (args : Array Value) (below : List Frame) (meth : Method) (c : Code), Cx p s m args meth c cc nL y.cls G → meth.sig.returnType = ret → J p l e (rmD d) s m args below meth c (MQ below (QV G rg post) args s 0 0 (rg_A G rg)) nL G rg 0 0 I L 0 lv []) : CtV l y cc nL ret d G rg I L av post := by
  refine Met.ofW (cc := cc) (maxL := nL) (ret := ret) hy rfl ?_
  intro p e s m args below meth c s₁ B hml hv
  obtain ⟨rfl, hP, hK, hNW⟩ := hv
  have hts : ∀ w ∈ wsOf y cc nL ret, w.before av.toArray s = true := atoms_spec (ws := wsOf y cc nL ret) B.pre
  have hown : s.vm.findClass y.cls = some m.cls := findClass_of_methodNamed B.named
  have hl := lv_entry av (n := nL) hlen
  rw [lg_entry_eq]
  refine body p e s m _ below meth c ⟨B.exec, B.bytes, hml, hown, fun w hw => hts w (List.mem_cons_of_mem _ hw), hK, B.notSynchronized, hNW⟩ B.returns s.heap [] _ hP va_S.rf ?_
  rw [hlv]
  exact hl
theorem j_cvV {p : Program} {l : Launch} {e : Env} {R : Room} {s : State} {m : MethodId} {args : Array Value} {below : List Frame} {meth : Method} {c : Code} {Q : State → Prop} {cc : ByteArray} {nL : Nat} {own : String} {G : GT} {rg : RgT} {kc ks : Nat} {I : II} {L : LL} {pc : Nat} {lv : LV} {st rest As : List Value} {idx ci n d o : Nat} {y : MethodName} {cb : ByteArray} {nb : Nat} {ret : Option FieldType} {h : ShT} {post : II → LL → Prop} (C : Cx p s m args meth c cc nL own G) (vc : VC own idx ci y cb nb ret n) (hM : CtV l y cb nb ret d G rg I L (.ref (gB G + o) :: As) post) (hR : d + 1 ≤ R.frames ∧ 34 * d + 34 ≤ R.locals) (ho : o < rg.1) (hs : rg.2 o = h) (hc : h.1 = ci + 6) (hn : As.length = n) (hst : st = As.reverse ++ .ref (gB G + o) :: rest) (hW : (rest.map fun v => v.category).sum ≤ 8) (hr : kc ≤ R.cells ∧ ks ≤ R.slots) (dd : decode cc pc = .ok (.invokevirtual idx, 3)) (kk : ∀ (I1 : II) (L1 : LL), post I1 L1 → J p l e R s m args below meth c Q nL G rg kc ks I1 L1 (pc + 3) lv rest) : J p l e R s m args below meth c Q nL G rg kc ks I L pc lv st := by
  intro H locs ls hP hS hl
  obtain ⟨hx, hb, hml, hown, hts, hK, hlk, hNW⟩ := C
  obtain ⟨T, N, h1, h2, h3, h4, h5, h6, h7, h8⟩ := vc
  have he := rg_at (G := G) (I := I) (L := L) ho
  rw [rg_obj hs hc] at he
  have hrec := va_recv hK hP h1 he
  have hpre : PreV s H y.cls (gB G + o) (va_Pc (.ref (gB G + o) :: As) (preR G rg I L)) As := ⟨preR_blind, hrec, fun U hU hW => ⟨rfl, by rw [hU]; exact hP, va_K.moved hW.alike hK, hNW.warm hW⟩⟩
  have hroom : (rmD d).frames + 1 ≤ R.frames ∧ 8 + (nb + 11) + (rmD d).locals ≤ R.locals := ⟨hR.1, by show 8 + (nb + 11) + 34 * d ≤ R.locals; omega⟩
  have hin : (Cond.instanceMethod y).before args s = true := hts _ h5
  have hse : (Cond.selects y.cls y y).before args s = true := hts _ h6
  have hA0 : ∀ q, q < H.size → rg_A G rg q → rg_A G rg q := fun _ _ z => z
  have hA1 : ∀ q, rg_A G rg q → rg_A G rg q := fun _ z => z
  rcases h8 with h8 | ⟨host, h8⟩
  · exact va_callv (va_runV (As := As) (rest := rest) ⟨hx, hb, hml, hown, hts⟩ hM ⟨callB_of n hts (tbl_in h4) rfl rfl rfl (hts _ h7) (hts _ h8) h2 hroom, hin, hse⟩ hpre rfl hn hl.1 hst (lv_room hW) dd hr) hS hA0 hA1 (fun u t H1 locs1 ht hvm hp hb _ _ hS1 => by obtain ⟨I1, L1⟩ := u; obtain ⟨hb1, hb2, hb3⟩ := hb; rw [ht] at hb1; exact kk I1 L1 hp H1 locs1 ls hb1 hS1 hl)
  · exact va_callv (va_runVN (As := As) (rest := rest) (host := host) ⟨hx, hb, hml, hown, hts⟩ hM ⟨va_cnB n hts (tbl_in h4) rfl rfl rfl (hNW _ h8) (hts _ h7) h2 hroom, hin, hse⟩ hpre rfl hn hl.1 hst (lv_room hW) dd hr) hS hA0 hA1 (fun u t H1 locs1 ht hvm hp hb _ _ hS1 => by obtain ⟨I1, L1⟩ := u; obtain ⟨hb1, hb2, hb3⟩ := hb; rw [ht] at hb1; exact kk I1 L1 hp H1 locs1 ls hb1 hS1 hl)
theorem j_csV {p : Program} {l : Launch} {e : Env} {R : Room} {s : State} {m : MethodId} {args : Array Value} {below : List Frame} {meth : Method} {c : Code} {Q : State → Prop} {cc : ByteArray} {nL : Nat} {own : String} {G : GT} {rg : RgT} {kc ks : Nat} {I : II} {L : LL} {pc : Nat} {lv : LV} {st rest As : List Value} {idx n d : Nat} {y : MethodName} {cb : ByteArray} {nb : Nat} {ret : Option FieldType} {post : II → LL → Prop} (C : Cx p s m args meth c cc nL own G) (vc : SC own idx y cb nb ret n) (hM : CtV l y cb nb ret d G rg I L As post) (hR : d + 1 ≤ R.frames ∧ 34 * d + 34 ≤ R.locals) (hn : As.length = n) (hst : st = As.reverse ++ rest) (hW : (rest.map fun v => v.category).sum ≤ 8) (hr : kc ≤ R.cells ∧ ks ≤ R.slots) (dd : decode cc pc = .ok (.invokestatic idx, 3)) (kk : ∀ (I1 : II) (L1 : LL), post I1 L1 → J p l e R s m args below meth c Q nL G rg kc ks I1 L1 (pc + 3) lv rest) : J p l e R s m args below meth c Q nL G rg kc ks I L pc lv st := by
  intro H locs ls hP hS hl
  obtain ⟨hx, hb, hml, hown, hts, hK, hlk, hNW⟩ := C
  obtain ⟨h2, h3, h4, h5, h7, h8⟩ := vc
  have hpre : PreS s H (va_Pc As (preR G rg I L)) As := ⟨preR_blind, fun U hU hW => ⟨rfl, by rw [hU]; exact hP, va_K.moved hW.alike hK, hNW.warm hW⟩⟩
  have hroom : (rmD d).frames + 1 ≤ R.frames ∧ 8 + (nb + 11) + (rmD d).locals ≤ R.locals := ⟨hR.1, by show 8 + (nb + 11) + 34 * d ≤ R.locals; omega⟩
  have hin : (Cond.static y).before args s = true := hts _ h5
  have hA0 : ∀ q, q < H.size → rg_A G rg q → rg_A G rg q := fun _ _ z => z
  have hA1 : ∀ q, rg_A G rg q → rg_A G rg q := fun _ z => z
  rcases h8 with h8 | ⟨host, h8⟩
  · exact va_callv (va_runS (As := As) (rest := rest) ⟨hx, hb, hml, hown, hts⟩ hM ⟨callB_of n hts (tbl_in h4) rfl rfl rfl (hts _ h7) (hts _ h8) h2 hroom, hin⟩ hpre rfl hn hl.1 hst (lv_room hW) dd hr) hS hA0 hA1 (fun u t H1 locs1 ht hvm hp hb _ _ hS1 => by obtain ⟨I1, L1⟩ := u; obtain ⟨hb1, hb2, hb3⟩ := hb; rw [ht] at hb1; exact kk I1 L1 hp H1 locs1 ls hb1 hS1 hl)
  · exact va_callv (va_runSN (As := As) (rest := rest) (host := host) ⟨hx, hb, hml, hown, hts⟩ hM ⟨va_cnB n hts (tbl_in h4) rfl rfl rfl (hNW _ h8) (hts _ h7) h2 hroom, hin, trivial⟩ hpre rfl hn hl.1 hst (lv_room hW) dd hr) hS hA0 hA1 (fun u t H1 locs1 ht hvm hp hb _ _ hS1 => by obtain ⟨I1, L1⟩ := u; obtain ⟨hb1, hb2, hb3⟩ := hb; rw [ht] at hb1; exact kk I1 L1 hp H1 locs1 ls hb1 hS1 hl)
def CtR (l : Launch) (y : MethodName) (cc : ByteArray) (nL : Nat) (ret : Option FieldType) (d : Nat) (G : GT) (rg : RgT) (I : II) (L : LL) (av : List Value) (post : Nat → II → LL → Prop) : Prop := Met l y (wsOf y cc nL ret) (rmD d) (va_Pc av (preR G rg I L)) (QR G rg post) 0 0 (rg_A G rg)
theorem ctR_of {l : Launch} {y : MethodName} {cc : ByteArray} {nL : Nat} {ret : Option FieldType} {d : Nat} {G : GT} {rg : RgT} {I : II} {L : LL} {av : List Value} {post : Nat → II → LL → Prop} (lv : LV) (hlv : asl 0 lv = lv_args 0 av) (hlen : (lg_sl av).length ≤ nL) (hy : plainName y.cls = true)
    (body : ∀ (p : Program) (e : Env) (s : State) (m : MethodId) (args : Array Value) (below : List Frame) (meth : Method) (c : Code), Cx p s m args meth c cc nL y.cls G → meth.sig.returnType = ret → J p l e (rmD d) s m args below meth c (MQ below (QR G rg post) args s 0 0 (rg_A G rg)) nL G rg 0 0 I L 0 lv []) : CtR l y cc nL ret d G rg I L av post := by
  refine Met.ofW (cc := cc) (maxL := nL) (ret := ret) hy rfl ?_
  intro p e s m args below meth c s₁ B hml hv
  obtain ⟨rfl, hP, hK, hNW⟩ := hv
  have hts : ∀ w ∈ wsOf y cc nL ret, w.before av.toArray s = true := atoms_spec (ws := wsOf y cc nL ret) B.pre
  have hown : s.vm.findClass y.cls = some m.cls := findClass_of_methodNamed B.named
  have hl := lv_entry av (n := nL) hlen
  rw [lg_entry_eq]
  refine body p e s m _ below meth c ⟨B.exec, B.bytes, hml, hown, fun w hw => hts w (List.mem_cons_of_mem _ hw), hK, B.notSynchronized, hNW⟩ B.returns s.heap [] _ hP va_S.rf ?_
  rw [hlv]
  exact hl
theorem j_cvR {p : Program} {l : Launch} {e : Env} {R : Room} {s : State} {m : MethodId} {args : Array Value} {below : List Frame} {meth : Method} {c : Code} {Q : State → Prop} {cc : ByteArray} {nL : Nat} {own : String} {G : GT} {rg : RgT} {kc ks : Nat} {I : II} {L : LL} {pc : Nat} {lv : LV} {st rest As : List Value} {idx ci n d o : Nat} {y : MethodName} {cb : ByteArray} {nb : Nat} {ret : Option FieldType} {h : ShT} {post : Nat → II → LL → Prop} (C : Cx p s m args meth c cc nL own G) (vc : VC own idx ci y cb nb ret n) (hM : CtR l y cb nb ret d G rg I L (.ref (gB G + o) :: As) post) (hR : d + 1 ≤ R.frames ∧ 34 * d + 34 ≤ R.locals) (ho : o < rg.1) (hs : rg.2 o = h) (hc : h.1 = ci + 6) (hn : As.length = n) (hst : st = As.reverse ++ .ref (gB G + o) :: rest) (hW : (rest.map fun v => v.category).sum ≤ 8) (hr : kc ≤ R.cells ∧ ks ≤ R.slots) (dd : decode cc pc = .ok (.invokevirtual idx, 3)) (kk : ∀ (r : Nat) (I1 : II) (L1 : LL), post r I1 L1 → J p l e R s m args below meth c Q nL G rg kc ks I1 L1 (pc + 3) lv (.ref (gB G + r) :: rest)) : J p l e R s m args below meth c Q nL G rg kc ks I L pc lv st := by
  intro H locs ls hP hS hl
  obtain ⟨hx, hb, hml, hown, hts, hK, hlk, hNW⟩ := C
  obtain ⟨T, N, h1, h2, h3, h4, h5, h6, h7, h8⟩ := vc
  have he := rg_at (G := G) (I := I) (L := L) ho
  rw [rg_obj hs hc] at he
  have hrec := va_recv hK hP h1 he
  have hpre : PreV s H y.cls (gB G + o) (va_Pc (.ref (gB G + o) :: As) (preR G rg I L)) As := ⟨preR_blind, hrec, fun U hU hW => ⟨rfl, by rw [hU]; exact hP, va_K.moved hW.alike hK, hNW.warm hW⟩⟩
  have hroom : (rmD d).frames + 1 ≤ R.frames ∧ 8 + (nb + 11) + (rmD d).locals ≤ R.locals := ⟨hR.1, by show 8 + (nb + 11) + 34 * d ≤ R.locals; omega⟩
  have hin : (Cond.instanceMethod y).before args s = true := hts _ h5
  have hse : (Cond.selects y.cls y y).before args s = true := hts _ h6
  have hA0 : ∀ q, q < H.size → rg_A G rg q → rg_A G rg q := fun _ _ z => z
  have hA1 : ∀ q, rg_A G rg q → rg_A G rg q := fun _ z => z
  rcases h8 with h8 | ⟨host, h8⟩
  · exact va_callr (va_runV (As := As) (rest := rest) ⟨hx, hb, hml, hown, hts⟩ hM ⟨callB_of n hts (tbl_in h4) rfl rfl rfl (hts _ h7) (hts _ h8) h2 hroom, hin, hse⟩ hpre rfl hn hl.1 hst (lv_room hW) dd hr) hS hA0 hA1 (fun u a t H1 locs1 ht hvm hp hb _ _ hS1 => by obtain ⟨r, I1, L1⟩ := u; obtain ⟨ha, hb1, hb2, hb3⟩ := hb; subst ha; rw [ht] at hb1; exact kk r I1 L1 hp H1 locs1 ls hb1 hS1 hl)
  · exact va_callr (va_runVN (As := As) (rest := rest) (host := host) ⟨hx, hb, hml, hown, hts⟩ hM ⟨va_cnB n hts (tbl_in h4) rfl rfl rfl (hNW _ h8) (hts _ h7) h2 hroom, hin, hse⟩ hpre rfl hn hl.1 hst (lv_room hW) dd hr) hS hA0 hA1 (fun u a t H1 locs1 ht hvm hp hb _ _ hS1 => by obtain ⟨r, I1, L1⟩ := u; obtain ⟨ha, hb1, hb2, hb3⟩ := hb; subst ha; rw [ht] at hb1; exact kk r I1 L1 hp H1 locs1 ls hb1 hS1 hl)
theorem j_csR {p : Program} {l : Launch} {e : Env} {R : Room} {s : State} {m : MethodId} {args : Array Value} {below : List Frame} {meth : Method} {c : Code} {Q : State → Prop} {cc : ByteArray} {nL : Nat} {own : String} {G : GT} {rg : RgT} {kc ks : Nat} {I : II} {L : LL} {pc : Nat} {lv : LV} {st rest As : List Value} {idx n d : Nat} {y : MethodName} {cb : ByteArray} {nb : Nat} {ret : Option FieldType} {post : Nat → II → LL → Prop} (C : Cx p s m args meth c cc nL own G) (vc : SC own idx y cb nb ret n) (hM : CtR l y cb nb ret d G rg I L As post) (hR : d + 1 ≤ R.frames ∧ 34 * d + 34 ≤ R.locals) (hn : As.length = n) (hst : st = As.reverse ++ rest) (hW : (rest.map fun v => v.category).sum ≤ 8) (hr : kc ≤ R.cells ∧ ks ≤ R.slots) (dd : decode cc pc = .ok (.invokestatic idx, 3)) (kk : ∀ (r : Nat) (I1 : II) (L1 : LL), post r I1 L1 → J p l e R s m args below meth c Q nL G rg kc ks I1 L1 (pc + 3) lv (.ref (gB G + r) :: rest)) : J p l e R s m args below meth c Q nL G rg kc ks I L pc lv st := by
  intro H locs ls hP hS hl
  obtain ⟨hx, hb, hml, hown, hts, hK, hlk, hNW⟩ := C
  obtain ⟨h2, h3, h4, h5, h7, h8⟩ := vc
  have hpre : PreS s H (va_Pc As (preR G rg I L)) As := ⟨preR_blind, fun U hU hW => ⟨rfl, by rw [hU]; exact hP, va_K.moved hW.alike hK, hNW.warm hW⟩⟩
  have hroom : (rmD d).frames + 1 ≤ R.frames ∧ 8 + (nb + 11) + (rmD d).locals ≤ R.locals := ⟨hR.1, by show 8 + (nb + 11) + 34 * d ≤ R.locals; omega⟩
  have hin : (Cond.static y).before args s = true := hts _ h5
  have hA0 : ∀ q, q < H.size → rg_A G rg q → rg_A G rg q := fun _ _ z => z
  have hA1 : ∀ q, rg_A G rg q → rg_A G rg q := fun _ z => z
  rcases h8 with h8 | ⟨host, h8⟩
  · exact va_callr (va_runS (As := As) (rest := rest) ⟨hx, hb, hml, hown, hts⟩ hM ⟨callB_of n hts (tbl_in h4) rfl rfl rfl (hts _ h7) (hts _ h8) h2 hroom, hin⟩ hpre rfl hn hl.1 hst (lv_room hW) dd hr) hS hA0 hA1 (fun u a t H1 locs1 ht hvm hp hb _ _ hS1 => by obtain ⟨r, I1, L1⟩ := u; obtain ⟨ha, hb1, hb2, hb3⟩ := hb; subst ha; rw [ht] at hb1; exact kk r I1 L1 hp H1 locs1 ls hb1 hS1 hl)
  · exact va_callr (va_runSN (As := As) (rest := rest) (host := host) ⟨hx, hb, hml, hown, hts⟩ hM ⟨va_cnB n hts (tbl_in h4) rfl rfl rfl (hNW _ h8) (hts _ h7) h2 hroom, hin, trivial⟩ hpre rfl hn hl.1 hst (lv_room hW) dd hr) hS hA0 hA1 (fun u a t H1 locs1 ht hvm hp hb _ _ hS1 => by obtain ⟨r, I1, L1⟩ := u; obtain ⟨ha, hb1, hb2, hb3⟩ := hb; subst ha; rw [ht] at hb1; exact kk r I1 L1 hp H1 locs1 ls hb1 hS1 hl)
theorem j_iret {p : Program} {l : Launch} {e : Env} {R : Room} {s : State} {m : MethodId} {args : Array Value} {below : List Frame} {meth : Method} {c : Code} {cc : ByteArray} {nL : Nat} {own : String} {G : GT} {rg : RgT} {kc ks : Nat} {I : II} {L : LL} {pc : Nat} {lv : LV} {post : Int32 → II → LL → Prop} {v : Int32} (C : Cx p s m args meth c cc nL own G) (hr : meth.sig.returnType = some .int) (d : decode cc pc = .ok (.ireturn, 1)) (hp : post v I L) : J p l e R s m args below meth c (MQ below (QI G rg post) args s kc ks (rg_A G rg)) nL G rg kc ks I L pc lv [.int v] := fun H locs ls hP hS hl => W.iret C.1 C.2.1 hr (fun t ht hW => ⟨⟨v, (I, L), rfl, hp, by rw [ht]; exact hP, va_K.moved hW.alike C.2.2.2.2.2.1, NW.warm hW C.2.2.2.2.2.2.2⟩, hS.F ht⟩) hS.2.2 d C.2.2.2.2.2.2.1
theorem j_zret {p : Program} {l : Launch} {e : Env} {R : Room} {s : State} {m : MethodId} {args : Array Value} {below : List Frame} {meth : Method} {c : Code} {cc : ByteArray} {nL : Nat} {own : String} {G : GT} {rg : RgT} {kc ks : Nat} {I : II} {L : LL} {pc : Nat} {lv : LV} {post : Int32 → II → LL → Prop} {v : Int32} (C : Cx p s m args meth c cc nL own G) {ty : FieldType} (hr : meth.sig.returnType = some ty) (hn : narrow ty (.int v) = .int v) (d : decode cc pc = .ok (.ireturn, 1)) (hp : post v I L) : J p l e R s m args below meth c (MQ below (QI G rg post) args s kc ks (rg_A G rg)) nL G rg kc ks I L pc lv [.int v] := fun H locs ls hP hS hl => W.zret C.1 C.2.1 hr hn (fun t ht hW => ⟨⟨v, (I, L), rfl, hp, by rw [ht]; exact hP, va_K.moved hW.alike C.2.2.2.2.2.1, NW.warm hW C.2.2.2.2.2.2.2⟩, hS.F ht⟩) hS.2.2 d C.2.2.2.2.2.2.1
theorem j_lret {p : Program} {l : Launch} {e : Env} {R : Room} {s : State} {m : MethodId} {args : Array Value} {below : List Frame} {meth : Method} {c : Code} {cc : ByteArray} {nL : Nat} {own : String} {G : GT} {rg : RgT} {kc ks : Nat} {I : II} {L : LL} {pc : Nat} {lv : LV} {post : Int64 → II → LL → Prop} {v : Int64} (C : Cx p s m args meth c cc nL own G) (hr : meth.sig.returnType = some .long) (d : decode cc pc = .ok (.lreturn, 1)) (hp : post v I L) : J p l e R s m args below meth c (MQ below (QL G rg post) args s kc ks (rg_A G rg)) nL G rg kc ks I L pc lv [.long v] := fun H locs ls hP hS hl => W.lret C.1 C.2.1 hr (fun t ht hW => ⟨⟨v, (I, L), rfl, hp, by rw [ht]; exact hP, va_K.moved hW.alike C.2.2.2.2.2.1, NW.warm hW C.2.2.2.2.2.2.2⟩, hS.F ht⟩) hS.2.2 d C.2.2.2.2.2.2.1
theorem j_vret {p : Program} {l : Launch} {e : Env} {R : Room} {s : State} {m : MethodId} {args : Array Value} {below : List Frame} {meth : Method} {c : Code} {cc : ByteArray} {nL : Nat} {own : String} {G : GT} {rg : RgT} {kc ks : Nat} {I : II} {L : LL} {pc : Nat} {lv : LV} {post : II → LL → Prop}  (C : Cx p s m args meth c cc nL own G) (hr : meth.sig.returnType = none) (d : decode cc pc = .ok (.return_, 1)) (hp : post I L) : J p l e R s m args below meth c (MQ below (QV G rg post) args s kc ks (rg_A G rg)) nL G rg kc ks I L pc lv [] := fun H locs ls hP hS hl => W.vret C.1 C.2.1 hr (fun t ht hW => ⟨⟨(I, L), rfl, hp, by rw [ht]; exact hP, va_K.moved hW.alike C.2.2.2.2.2.1, NW.warm hW C.2.2.2.2.2.2.2⟩, hS.F ht⟩) hS.2.2 d C.2.2.2.2.2.2.1
theorem j_aret {p : Program} {l : Launch} {e : Env} {R : Room} {s : State} {m : MethodId} {args : Array Value} {below : List Frame} {meth : Method} {c : Code} {cc : ByteArray} {nL : Nat} {own : String} {G : GT} {rg : RgT} {kc ks : Nat} {I : II} {L : LL} {pc : Nat} {lv : LV} {post : Nat → II → LL → Prop} {v : Nat} {rt : FieldType} (C : Cx p s m args meth c cc nL own G) (hr : meth.sig.returnType = some rt) (hrt : (∃ n, rt = .object n) ∨ ∃ t, rt = .array t) (d : decode cc pc = .ok (.areturn, 1)) (hp : post v I L) : J p l e R s m args below meth c (MQ below (QR G rg post) args s kc ks (rg_A G rg)) nL G rg kc ks I L pc lv [.ref (gB G + v)] := fun H locs ls hP hS hl => W.aret C.1 C.2.1 hr hrt (Or.inr ⟨_, rfl⟩) (fun t ht hW => ⟨⟨(v, I, L), gB G + v, rfl, hp, rfl, by rw [ht]; exact hP, va_K.moved hW.alike C.2.2.2.2.2.1, NW.warm hW C.2.2.2.2.2.2.2⟩, hS.F ht⟩) hS.2.2 d C.2.2.2.2.2.2.1
theorem j_widen {p : Program} {l : Launch} {e : Env} {R : Room} {s : State} {m : MethodId} {args : Array Value} {below : List Frame} {meth : Method} {c : Code} {Q : State → Prop} {cc : ByteArray} {nL : Nat} {own : String} {G : GT} {rg : RgT} {kc ks : Nat} {I : II} {L : LL} {pc : Nat} {lv : LV} {st : List Value} {k1 k2 : Nat} (h1 : kc ≤ k1) (h2 : ks ≤ k2) (k : J p l e R s m args below meth c Q nL G rg k1 k2 I L pc lv st) : J p l e R s m args below meth c Q nL G rg kc ks I L pc lv st := fun H locs ls hP hS hl => W.widen h1 h2 (k H locs ls hP hS hl)
