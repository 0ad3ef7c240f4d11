theorem j_mmin {p : Program} {l : Launch} {e : Env} {R : Room} {s : State} {m : MethodId} {args : Array Value} {below : List Frame} {meth : Method} {c : Code} {Q : State → Prop} {cc : ByteArray} {nL : Nat} {own : String} {G : GT} {rg : RgT} {kc ks : Nat} {I : II} {L : LL} {pc : Nat} {lv : LV} {st : List Value} (C : Cx p s m args meth c cc nL own G) {idx : Nat} {x y : Int32} (hl : Cond.methodLink own idx Lib.Math.min.name ∈ tblG) (h1 : Cond.static Lib.Math.min.name ∈ tblG) (h2 : Cond.initialized "java/lang/Math" ∈ tblG) (h3 : Cond.code Lib.Math.min.name Lib.Math.min.code 2 (some .int) ∈ tblG) (hf : 1 ≤ R.frames) (hW : (st.map fun v => v.category).sum + 13 ≤ R.locals) (hc : kc ≤ R.cells) (hs : ks ≤ R.slots) (d : decode cc pc = .ok (.invokestatic idx, 3)) (k : J p l e R s m args below meth c Q nL G rg kc ks I L (pc + 3) lv (.int (if y < x then y else x) :: st)) : J p l e R s m args below meth c Q nL G rg kc ks I L pc lv (.int y :: .int x :: st) := fun H locs ls hP hS hl2 => va_mmin C.1 C.2.1 (C.2.2.1.trans hl2.1.symm) C.2.2.2.1 (C.2.2.2.2.1 _ hl) (C.2.2.2.2.1 _ h1) (C.2.2.2.2.1 _ h2) (C.2.2.2.2.1 _ h3) hf hW hc hs d (k H locs ls hP hS hl2)
theorem n_mmin {p : Program} {l : Launch} {e : Env} {R : Room} {s : State} {m : MethodId} {args : Array Value} {below : List Frame} {meth : Method} {c : Code} {Q : State → Prop} {cc : ByteArray} {nL : Nat} {own : String} {G : GT} {rg : RgT} {kc ks : Nat} {I : II} {L : LL} {pc : Nat} {lv : LV} {st : List Value} (C : Cx p s m args meth c cc nL own G) {idx : Nat} {a b : Nat} (ha : a < 2 ^ 31) (hb : b < 2 ^ 31) (hl : Cond.methodLink own idx Lib.Math.min.name ∈ tblG) (h1 : Cond.static Lib.Math.min.name ∈ tblG) (h2 : Cond.initialized "java/lang/Math" ∈ tblG) (h3 : Cond.code Lib.Math.min.name Lib.Math.min.code 2 (some .int) ∈ tblG) (hf : 1 ≤ R.frames) (hW : (st.map fun v => v.category).sum + 13 ≤ R.locals) (hc : kc ≤ R.cells) (hs : ks ≤ R.slots) (d : decode cc pc = .ok (.invokestatic idx, 3)) (k : J p l e R s m args below meth c Q nL G rg kc ks I L (pc + 3) lv (.int (nI (min a b)) :: st)) : J p l e R s m args below meth c Q nL G rg kc ks I L pc lv (.int (nI b) :: .int (nI a) :: st) := by
  refine j_mmin C hl h1 h2 h3 hf hW hc hs d ?_
  have e : (if nI b < nI a then nI b else nI a) = nI (min a b) := by
    split
    · next h => have := (nI_ltI (by assumption) (by assumption)).mp h; congr 1; omega
    · next h => have : ¬ (b < a) := fun q => h ((nI_ltI (by assumption) (by assumption)).mpr q); congr 1; omega
  rw [e]
  exact k
theorem wm_min_1 : Cond.static Lib.Math.min.name ∈ tblG := mt 254 (by decide +kernel) rfl
theorem wm_min_3 : Cond.code Lib.Math.min.name Lib.Math.min.code 2 (some .int) ∈ tblG := mt 255 (by decide +kernel) rfl
theorem wm_min_0 : Cond.methodLink RX1 21 Lib.Math.min.name ∈ tblG := mt 253 (by decide +kernel) rfl
theorem j_mmax {p : Program} {l : Launch} {e : Env} {R : Room} {s : State} {m : MethodId} {args : Array Value} {below : List Frame} {meth : Method} {c : Code} {Q : State → Prop} {cc : ByteArray} {nL : Nat} {own : String} {G : GT} {rg : RgT} {kc ks : Nat} {I : II} {L : LL} {pc : Nat} {lv : LV} {st : List Value} (C : Cx p s m args meth c cc nL own G) {idx : Nat} {x y : Int32} (hl : Cond.methodLink own idx Lib.Math.max.name ∈ tblG) (h1 : Cond.static Lib.Math.max.name ∈ tblG) (h2 : Cond.initialized "java/lang/Math" ∈ tblG) (h3 : Cond.code Lib.Math.max.name Lib.Math.max.code 2 (some .int) ∈ tblG) (hf : 1 ≤ R.frames) (hW : (st.map fun v => v.category).sum + 13 ≤ R.locals) (hc : kc ≤ R.cells) (hs : ks ≤ R.slots) (d : decode cc pc = .ok (.invokestatic idx, 3)) (k : J p l e R s m args below meth c Q nL G rg kc ks I L (pc + 3) lv (.int (if x < y then y else x) :: st)) : J p l e R s m args below meth c Q nL G rg kc ks I L pc lv (.int y :: .int x :: st) := fun H locs ls hP hS hl2 => va_mmax C.1 C.2.1 (C.2.2.1.trans hl2.1.symm) C.2.2.2.1 (C.2.2.2.2.1 _ hl) (C.2.2.2.2.1 _ h1) (C.2.2.2.2.1 _ h2) (C.2.2.2.2.1 _ h3) hf hW hc hs d (k H locs ls hP hS hl2)
theorem n_mmax {p : Program} {l : Launch} {e : Env} {R : Room} {s : State} {m : MethodId} {args : Array Value} {below : List Frame} {meth : Method} {c : Code} {Q : State → Prop} {cc : ByteArray} {nL : Nat} {own : String} {G : GT} {rg : RgT} {kc ks : Nat} {I : II} {L : LL} {pc : Nat} {lv : LV} {st : List Value} (C : Cx p s m args meth c cc nL own G) {idx : Nat} {a b : Nat} (ha : a < 2 ^ 31) (hb : b < 2 ^ 31) (hl : Cond.methodLink own idx Lib.Math.max.name ∈ tblG) (h1 : Cond.static Lib.Math.max.name ∈ tblG) (h2 : Cond.initialized "java/lang/Math" ∈ tblG) (h3 : Cond.code Lib.Math.max.name Lib.Math.max.code 2 (some .int) ∈ tblG) (hf : 1 ≤ R.frames) (hW : (st.map fun v => v.category).sum + 13 ≤ R.locals) (hc : kc ≤ R.cells) (hs : ks ≤ R.slots) (d : decode cc pc = .ok (.invokestatic idx, 3)) (k : J p l e R s m args below meth c Q nL G rg kc ks I L (pc + 3) lv (.int (nI (max a b)) :: st)) : J p l e R s m args below meth c Q nL G rg kc ks I L pc lv (.int (nI b) :: .int (nI a) :: st) := by
  refine j_mmax C hl h1 h2 h3 hf hW hc hs d ?_
  have e : (if nI a < nI b then nI b else nI a) = nI (max a b) := by
    split
    · next h => have := (nI_ltI (by assumption) (by assumption)).mp h; congr 1; omega
    · next h => have : ¬ (a < b) := fun q => h ((nI_ltI (by assumption) (by assumption)).mpr q); congr 1; omega
  rw [e]
  exact k
theorem wm_max_1 : Cond.static Lib.Math.max.name ∈ tblG := mt 257 (by decide +kernel) rfl
theorem wm_max_3 : Cond.code Lib.Math.max.name Lib.Math.max.code 2 (some .int) ∈ tblG := mt 258 (by decide +kernel) rfl
theorem wm_max_0 : Cond.methodLink RX1 27 Lib.Math.max.name ∈ tblG := mt 256 (by decide +kernel) rfl
theorem wm_ini : Cond.initialized "java/lang/Math" ∈ tblG := mt 10 (by decide +kernel) rfl
theorem fill_s {I : II} {o i : Nat} {v : Int32} : up2 (va_up I o (fun j => if j < i then v else I o j)) o i v = va_up I o (fun j => if j < i + 1 then v else I o j) := by
  funext q j
  rw [up2_at]
  unfold va_up
  by_cases h : q = o
  · subst h
    simp only [if_true]
    by_cases h1 : j = i
    · simp [h1]
    · simp [h1, show j < i + 1 ↔ j < i by omega]
  · simp [h]
theorem fill_0 {I : II} {o : Nat} {v : Int32} : I = va_up I o (fun j => if j < 0 then v else I o j) := by
  funext q j
  unfold va_up
  by_cases h : q = o
  · subst h; simp
  · simp [h]
set_option maxHeartbeats 4000000 in
set_option maxRecDepth 20000 in
theorem c_fill (l : Launch) (G : GT) (rg : RgT) (I : II) (L : LL) (o n : Nat) (v : Int32) (ha : Ar rg o 0 n) (hn : n < 2 ^ 30) : CtV l yJ7_fill_53178 cJ7_fill_53178 4 none 1 G rg I L [.ref (gB G + o), .int v] (fun I1 L1 => va_up I o (fun j => if j < n then v else I o j) = I1 ∧ L = L1) := by
  refine ctV_of [some (.ref (gB G + o)), some (.int v), none, none] rfl (Nat.le_of_ble_eq_true rfl) (by decide) ?_
  intro p e s m args below meth c C hr
  have lp : ∀ (fuel : Nat) (i : Nat), n < fuel + i → i ≤ n → J p l e (rmD 1) s m args below meth c (MQ below (QV G rg (fun I1 L1 => va_up I o (fun j => if j < n then v else I o j) = I1 ∧ L = L1)) args s 0 0 (rg_A G rg)) 4 G rg 0 0 (va_up I o (fun j => if j < i then v else I o j)) L 5 [some (.ref (gB G + o)), some (.int v), some (.int (nI i)), some (.int (nI n))] [] := by
    intro fuel
    induction fuel with
    | zero => intro i h1 h2; exfalso; omega
    | succ fuel ih_lp =>
      intro i h1 h2
      refine j_iload_n C dJ7_fill_53178_5 rfl rfl ?_
      refine j_iload_n C dJ7_fill_53178_6 rfl rfl ?_
      first | refine n_icmp_ge (tgt := 20) C (by omega) (by omega) dJ7_fill_53178_7 (by decide) (fun h_7 => ?_) (fun h_7 => ?_) | refine j_icmp_ge (tgt := 20) C dJ7_fill_53178_7 (by decide) (fun h_7 => ?_) (fun h_7 => ?_)
      · exact j_vret C hr dJ7_fill_53178_20 (⟨by rw [show i = n by omega], rfl⟩)
      · refine j_aload_n C dJ7_fill_53178_10 rfl rfl ?_
        refine j_iload_n C dJ7_fill_53178_11 rfl rfl ?_
        refine j_iload_n C dJ7_fill_53178_12 rfl rfl ?_
        refine g_iast C ha (by omega) (by omega) dJ7_fill_53178_13 ?_
        first | refine n_iinc (n := 1) C dJ7_fill_53178_14 rfl (by decide) ?_ | refine j_iinc C dJ7_fill_53178_14 rfl rfl (by decide) ?_
        refine j_goto (tgt := 5) C dJ7_fill_53178_17 (by decide) ?_
        rw [show up2 (va_up I o (fun j => if j < i then v else I o j)) o i v = va_up I o (fun j => if j < i + 1 then v else I o j) from fill_s]
        exact ih_lp (i + 1) (by omega) (by omega)
  refine j_iconst (v := nI 0) C dJ7_fill_53178_0 (by decide) ?_
  refine j_istore_n C dJ7_fill_53178_1 rfl (by decide) ?_
  refine j_aload_n C dJ7_fill_53178_2 rfl rfl ?_
  refine g_alen C (by assumption) (by decide) dJ7_fill_53178_3 ?_
  refine j_istore_n C dJ7_fill_53178_4 rfl (by decide) ?_
  refine t_IL (fill_0 (o := o) (v := v)) rfl ?_
  exact lp (n + 1) 0 (by omega) (by omega)

set_option maxHeartbeats 4000000 in
set_option maxRecDepth 20000 in
theorem c_X1_number (l : Launch) (G : GT) (rg : RgT) (I : II) (L : LL) (o i j : Nat) (hf : isFm rg o) (hi : i < 5) (hj : j < 5) : CtI l yX1_number cX1_number 3 (some FieldType.int) 2 G rg I L [.ref (gB G + o), .int (nI i), .int (nI j)] (fun r I1 L1 => r = I (o + 1) (ix i j) ∧ I = I1 ∧ L = L1) := by
  refine ctI_of [some (.ref (gB G + o)), some (.int (nI i)), some (.int (nI j))] rfl (Nat.le_of_ble_eq_true rfl) (by decide) ?_
  intro p e s m args below meth c C hr
  obtain ⟨hf1, hf2⟩ := hf
  refine j_aload_n C dX1_number_0 rfl rfl ?_
  refine g_getR C (by assumption) fl_X1_9 (by rfl) dX1_number_1 ?_
  refine j_iload_n C dX1_number_4 rfl rfl ?_
  refine j_iload_n C dX1_number_5 rfl rfl ?_
  refine n_mmin C (by omega) (by omega) wm_min_0 wm_min_1 wm_ini wm_min_3 (by decide) (Nat.le_of_ble_eq_true rfl) (Nat.zero_le _) (Nat.zero_le _) dX1_number_6 ?_
  refine j_iconst (v := nI 5) C dX1_number_9 (by decide) ?_
  first | refine n_imul C dX1_number_10 ?_ | refine j_imul C dX1_number_10 ?_
  refine j_iload_n C dX1_number_11 rfl rfl ?_
  refine j_iload_n C dX1_number_12 rfl rfl ?_
  refine n_mmax C (by omega) (by omega) wm_max_0 wm_max_1 wm_ini wm_max_3 (by decide) (Nat.le_of_ble_eq_true rfl) (Nat.zero_le _) (Nat.zero_le _) dX1_number_13 ?_
  first | refine n_iadd C dX1_number_16 ?_ | refine j_iadd C dX1_number_16 ?_
  refine g_iald C (by assumption) (by omega) (by decide) dX1_number_17 ?_
  exact j_iret C hr dX1_number_18 (⟨rfl, rfl, rfl⟩)

set_option maxHeartbeats 4000000 in
set_option maxRecDepth 20000 in
theorem c_X1_replace (l : Launch) (G : GT) (rg : RgT) (I : II) (L : LL) (o i j : Nat) (v : Int32) (hf : isFm rg o) (hi : i < 5) (hj : j < 5) : CtI l yX1_replace cX1_replace 5 (some FieldType.int) 3 G rg I L [.ref (gB G + o), .int (nI i), .int (nI j), .int v] (fun r I1 L1 => r = I (o + 1) (ix i j) ∧ up2 I (o + 1) (ix i j) v = I1 ∧ L = L1) := by
  refine ctI_of [some (.ref (gB G + o)), some (.int (nI i)), some (.int (nI j)), some (.int v), none] rfl (Nat.le_of_ble_eq_true rfl) (by decide) ?_
  intro p e s m args below meth c C hr
  obtain ⟨hf1, hf2⟩ := id hf
  refine j_aload_n C dX1_replace_0 rfl rfl ?_
  refine j_iload_n C dX1_replace_1 rfl rfl ?_
  refine j_iload_n C dX1_replace_2 rfl rfl ?_
  refine g_cvI C vc_X1_30 (c_X1_number l G rg _ _ _ _ _ (by assumption) (by omega) (by omega)) ⟨Nat.le_of_ble_eq_true rfl, Nat.le_of_ble_eq_true rfl⟩ (by assumption) rfl rfl (Nat.le_of_ble_eq_true rfl) ⟨Nat.zero_le _, Nat.zero_le _⟩ dX1_replace_3 (fun r_3 I_3 L_3 p_3 => ?_)
  obtain ⟨rfl, rfl, rfl⟩ := p_3
  refine j_istore C dX1_replace_6 (by decide) ?_
  refine j_aload_n C dX1_replace_8 rfl rfl ?_
  refine g_getR C (by assumption) fl_X1_9 (by rfl) dX1_replace_9 ?_
  refine j_iload_n C dX1_replace_12 rfl rfl ?_
  refine j_iload_n C dX1_replace_13 rfl rfl ?_
  refine n_mmin C (by omega) (by omega) wm_min_0 wm_min_1 wm_ini wm_min_3 (by decide) (Nat.le_of_ble_eq_true rfl) (Nat.zero_le _) (Nat.zero_le _) dX1_replace_14 ?_
  refine j_iconst (v := nI 5) C dX1_replace_17 (by decide) ?_
  first | refine n_imul C dX1_replace_18 ?_ | refine j_imul C dX1_replace_18 ?_
  refine j_iload_n C dX1_replace_19 rfl rfl ?_
  refine j_iload_n C dX1_replace_20 rfl rfl ?_
  refine n_mmax C (by omega) (by omega) wm_max_0 wm_max_1 wm_ini wm_max_3 (by decide) (Nat.le_of_ble_eq_true rfl) (Nat.zero_le _) (Nat.zero_le _) dX1_replace_21 ?_
  first | refine n_iadd C dX1_replace_24 ?_ | refine j_iadd C dX1_replace_24 ?_
  refine j_iload_n C dX1_replace_25 rfl rfl ?_
  refine g_iast C (by assumption) (by omega) (by decide) dX1_replace_26 ?_
  refine j_iload C dX1_replace_27 rfl ?_
  exact j_iret C hr dX1_replace_29 (⟨rfl, rfl, rfl⟩)

set_option maxHeartbeats 4000000 in
set_option maxRecDepth 20000 in
theorem c_X1_clear (l : Launch) (G : GT) (rg : RgT) (I : II) (L : LL) (o : Nat) (hf : isFm rg o) : CtV l yX1_clear cX1_clear 1 none 2 G rg I L [.ref (gB G + o)] (fun I1 L1 => va_up I (o + 1) (fun j => if j < 25 then 0 else I (o + 1) j) = I1 ∧ L = L1) := by
  refine ctV_of [some (.ref (gB G + o))] rfl (Nat.le_of_ble_eq_true rfl) (by decide) ?_
  intro p e s m args below meth c C hr
  obtain ⟨hf1, hf2⟩ := id hf
  refine j_aload_n C dX1_clear_0 rfl rfl ?_
  refine g_getR C (by assumption) fl_X1_9 (by rfl) dX1_clear_1 ?_
  refine j_iconst (v := (0)) C dX1_clear_4 (by decide) ?_
  refine j_csV C sc_X1_15 (c_fill l G rg _ _ _ _ _ (by assumption) (by decide)) ⟨Nat.le_of_ble_eq_true rfl, Nat.le_of_ble_eq_true rfl⟩ rfl rfl (Nat.le_of_ble_eq_true rfl) ⟨Nat.zero_le _, Nat.zero_le _⟩ dX1_clear_5 (fun I_5 L_5 p_5 => ?_)
  obtain ⟨rfl, rfl⟩ := p_5
  exact j_vret C hr dX1_clear_8 (⟨rfl, rfl⟩)

set_option maxHeartbeats 4000000 in
set_option maxRecDepth 20000 in
theorem c_X3_at (l : Launch) (G : GT) (rg : RgT) (I : II) (L : LL) (o i j : Nat) (hm : isMx rg o) (hi : i < 5) (hj : j < 5) : CtR l yX3_at cX3_at 3 (some (FieldType.object "SquareSums$Fraction")) 1 G rg I L [.ref (gB G + o), .int (nI i), .int (nI j)] (fun r I1 L1 => r = o + 2 + (i * 5 + j) ∧ I = I1 ∧ L = L1) := by
  refine ctR_of [some (.ref (gB G + o)), some (.int (nI i)), some (.int (nI j))] rfl (Nat.le_of_ble_eq_true rfl) (by decide) ?_
  intro p e s m args below meth c C hr
  obtain ⟨hm1, hm2, hm3⟩ := hm
  refine j_aload_n C dX3_at_0 rfl rfl ?_
  refine g_getR C (by assumption) fl_X3_13 (by rfl) dX3_at_1 ?_
  refine j_iload_n C dX3_at_4 rfl rfl ?_
  refine j_iconst (v := nI 5) C dX3_at_5 (by decide) ?_
  first | refine n_imul C dX3_at_6 ?_ | refine j_imul C dX3_at_6 ?_
  refine j_iload_n C dX3_at_7 rfl rfl ?_
  first | refine n_iadd C dX3_at_8 ?_ | refine j_iadd C dX3_at_8 ?_
  refine g_aald3 C (by assumption) (by omega) (by decide) (by rfl) (by omega) dX3_at_9 ?_
  exact j_aret C hr (by first | exact Or.inl ⟨_, rfl⟩ | exact Or.inr ⟨_, rfl⟩) dX3_at_10 (⟨rfl, rfl, rfl⟩)

set_option maxHeartbeats 4000000 in
set_option maxRecDepth 20000 in
theorem c_X3_take (l : Launch) (G : GT) (rg : RgT) (I : II) (L : LL) (o fo n : Nat) (hm : isMx rg o) (hf : isFm rg fo) (hn : n < 5) : CtV l yX3_take cX3_take 5 none 4 G rg I L [.ref (gB G + o), .ref (gB G + fo), .int (nI n)] (fun I1 L1 => I = I1 ∧ Fm (o + 2) (o + 27) L L1 ∧ TK (I (fo + 1)) o n L1 (n + 1) 0) := by
  refine ctV_of [some (.ref (gB G + o)), some (.ref (gB G + fo)), some (.int (nI n)), none, none] rfl (Nat.le_of_ble_eq_true rfl) (by decide) ?_
  intro p e s m args below meth c C hr
  obtain ⟨hm1, hm2, hm3⟩ := id hm
  obtain ⟨hf1, hf2⟩ := id hf
  have lp : ∀ (fuel : Nat) (i : Nat) (L1 : LL), n + 1 < fuel + i → i ≤ n + 1 → Fm (o + 2) (o + 27) L L1 → TK (I (fo + 1)) o n L1 i 0 → J p l e (rmD 4) s m args below meth c (MQ below (QV G rg (fun I1 L1 => I = I1 ∧ Fm (o + 2) (o + 27) L L1 ∧ TK (I (fo + 1)) o n L1 (n + 1) 0)) args s 0 0 (rg_A G rg)) 5 G rg 0 0 I L1 2 [some (.ref (gB G + o)), some (.ref (gB G + fo)), some (.int (nI n)), some (.int (nI i)), none] [] := by
    intro fuel
    induction fuel with
    | zero => intro i L1 h1 h2 hF1 hT; exfalso; omega
    | succ fuel ih_lp =>
      intro i L1 h1 h2 hF1 hT
      refine j_iload_n C dX3_take_2 rfl rfl ?_
      refine j_iload_n C dX3_take_3 rfl rfl ?_
      first | refine n_icmp_gt (tgt := 60) C (by omega) (by omega) dX3_take_4 (by decide) (fun h_4 => ?_) (fun h_4 => ?_) | refine j_icmp_gt (tgt := 60) C dX3_take_4 (by decide) (fun h_4 => ?_) (fun h_4 => ?_)
      · exact j_vret C hr dX3_take_60 (⟨rfl, hF1, fun a b ha hb _ => hT a b ha hb (by omega)⟩)
      · refine j_iconst (v := nI 0) C dX3_take_7 (by decide) ?_
        refine j_istore C dX3_take_8 (by decide) ?_
        have lq : ∀ (fuel : Nat) (j : Nat) (L2 : LL), n + 1 < fuel + j → j ≤ n + 1 → Fm (o + 2) (o + 27) L L2 → TK (I (fo + 1)) o n L2 i j → J p l e (rmD 4) s m args below meth c (MQ below (QV G rg (fun I1 L1 => I = I1 ∧ Fm (o + 2) (o + 27) L L1 ∧ TK (I (fo + 1)) o n L1 (n + 1) 0)) args s 0 0 (rg_A G rg)) 5 G rg 0 0 I L2 10 [some (.ref (gB G + o)), some (.ref (gB G + fo)), some (.int (nI n)), some (.int (nI i)), some (.int (nI j))] [] := by
          intro fuel
          induction fuel with
          | zero => intro j L2 q1 q2 hF2 hT2; exfalso; omega
          | succ fuel ih_lq =>
            intro j L2 q1 q2 hF2 hT2
            refine j_iload C dX3_take_10 rfl ?_
            refine j_iload_n C dX3_take_12 rfl rfl ?_
            first | refine n_icmp_gt (tgt := 54) C (by omega) (by omega) dX3_take_13 (by decide) (fun h_13 => ?_) (fun h_13 => ?_) | refine j_icmp_gt (tgt := 54) C dX3_take_13 (by decide) (fun h_13 => ?_) (fun h_13 => ?_)
            · first | refine n_iinc (n := 1) C dX3_take_54 rfl (by decide) ?_ | refine j_iinc C dX3_take_54 rfl rfl (by decide) ?_
              refine j_goto (tgt := 2) C dX3_take_57 (by decide) ?_
              refine j_rm 4 ?_
              exact ih_lp (i + 1) L2 (by omega) (by omega) hF2 (TK_n hT2 (by omega))
            · refine j_aload_n C dX3_take_16 rfl rfl ?_
              refine j_iload_n C dX3_take_17 rfl rfl ?_
              refine j_iload C dX3_take_18 rfl ?_
              refine g_cvR C vc_X3_26 (c_X3_at l G rg _ _ _ _ _ (by assumption) (by omega) (by omega)) ⟨Nat.le_of_ble_eq_true rfl, Nat.le_of_ble_eq_true rfl⟩ (hm1) rfl rfl (Nat.le_of_ble_eq_true rfl) ⟨Nat.zero_le _, Nat.zero_le _⟩ dX3_take_20 (fun r_20 I_20 L_20 p_20 => ?_)
              obtain ⟨rfl, rfl, rfl⟩ := p_20
              refine j_aload_n C dX3_take_23 rfl rfl ?_
              refine j_iload_n C dX3_take_24 rfl rfl ?_
              refine j_iload C dX3_take_25 rfl ?_
              refine g_cvI C vc_X3_30 (c_X1_number l G rg _ _ _ _ _ (by assumption) (by omega) (by omega)) ⟨Nat.le_of_ble_eq_true rfl, Nat.le_of_ble_eq_true rfl⟩ (hf1) rfl rfl (Nat.le_of_ble_eq_true rfl) ⟨Nat.zero_le _, Nat.zero_le _⟩ dX3_take_27 (fun r_27 I_27 L_27 p_27 => ?_)
              obtain ⟨rfl, rfl, rfl⟩ := p_27
              refine j_i2l C dX3_take_30 ?_
              refine j_iload_n C dX3_take_31 rfl rfl ?_
              refine j_iload C dX3_take_32 rfl ?_
              first | refine n_icmp_ne (tgt := 41) C (by omega) (by omega) dX3_take_34 (by decide) (fun h_34 => ?_) (fun h_34 => ?_) | refine j_icmp_ne (tgt := 41) C dX3_take_34 (by decide) (fun h_34 => ?_) (fun h_34 => ?_)
              · refine j_ldc2 C kc_X3_36 dX3_take_41 ?_
                have hF := hm3 (i * 5 + j) (by omega)
                refine g_cvI C vc_X3_38 (c_X2_put l G rg _ _ _ _ _ hF) ⟨Nat.le_of_ble_eq_true rfl, Nat.le_of_ble_eq_true rfl⟩ (hF) rfl rfl (Nat.le_of_ble_eq_true rfl) ⟨Nat.zero_le _, Nat.zero_le _⟩ dX3_take_44 (fun r_44 I_44 L_44 p_44 => ?_)
                obtain ⟨rfl, rfl, rfl⟩ := Put_some p_44 (hv_2 h_34)
                refine j_pop C dX3_take_47 rfl ?_
                first | refine n_iinc (n := 1) C dX3_take_48 rfl (by decide) ?_ | refine j_iinc C dX3_take_48 rfl rfl (by decide) ?_
                refine j_goto (tgt := 10) C dX3_take_51 (by decide) ?_
                exact ih_lq (j + 1) _ (by omega) (by omega) (hF2.set (by omega) (by omega)) (TK_s hT2 hn (by omega))
              · refine j_lconst (v := 1) C dX3_take_37 (by decide) ?_
                refine j_goto (tgt := 44) C dX3_take_38 (by decide) ?_
                have hF := hm3 (i * 5 + j) (by omega)
                refine g_cvI C vc_X3_38 (c_X2_put l G rg _ _ _ _ _ hF) ⟨Nat.le_of_ble_eq_true rfl, Nat.le_of_ble_eq_true rfl⟩ (hF) rfl rfl (Nat.le_of_ble_eq_true rfl) ⟨Nat.zero_le _, Nat.zero_le _⟩ dX3_take_44 (fun r_44 I_44 L_44 p_44 => ?_)
                obtain ⟨rfl, rfl, rfl⟩ := Put_some p_44 (hv_1 h_34)
                refine j_pop C dX3_take_47 rfl ?_
                first | refine n_iinc (n := 1) C dX3_take_48 rfl (by decide) ?_ | refine j_iinc C dX3_take_48 rfl rfl (by decide) ?_
                refine j_goto (tgt := 10) C dX3_take_51 (by decide) ?_
                exact ih_lq (j + 1) _ (by omega) (by omega) (hF2.set (by omega) (by omega)) (TK_s hT2 hn (by omega))
        exact lq (n + 2) 0 L1 (by omega) (by omega) hF1 hT
  refine j_iconst (v := nI 0) C dX3_take_0 (by decide) ?_
  refine j_istore_n C dX3_take_1 rfl (by decide) ?_
  exact lp (n + 2) 0 L (by omega) (by omega) Fm.rf TK_0

set_option maxHeartbeats 4000000 in
set_option maxRecDepth 20000 in
theorem c_X3_copy (l : Launch) (G : GT) (rg : RgT) (I : II) (L : LL) (o a : Nat) (hm : isMx rg o) (hq : isMx rg a) (hd : a + 27 ≤ o + 2 ∨ o + 27 ≤ a + 2) : CtV l yX3_copy cX3_copy 3 none 2 G rg I L [.ref (gB G + o), .ref (gB G + a)] (fun I1 L1 => I = I1 ∧ Fm (o + 2) (o + 27) L L1 ∧ ∀ k, k < 25 → fr L1 (o + 2 + k) = fr L (a + 2 + k)) := by
  refine ctV_of [some (.ref (gB G + o)), some (.ref (gB G + a)), none] rfl (Nat.le_of_ble_eq_true rfl) (by decide) ?_
  intro p e s m args below meth c C hr
  obtain ⟨hm1, hm2, hm3⟩ := id hm
  obtain ⟨hq1, hq2, hq3⟩ := id hq
  have lp : ∀ (fuel : Nat) (i : Nat) (L1 : LL), 25 < fuel + i → i ≤ 25 → Fm (o + 2) (o + 27) L L1 → (∀ k, k < i → fr L1 (o + 2 + k) = fr L (a + 2 + k)) → J p l e (rmD 2) s m args below meth c (MQ below (QV G rg (fun I1 L1 => I = I1 ∧ Fm (o + 2) (o + 27) L L1 ∧ ∀ k, k < 25 → fr L1 (o + 2 + k) = fr L (a + 2 + k))) args s 0 0 (rg_A G rg)) 3 G rg 0 0 I L1 2 [some (.ref (gB G + o)), some (.ref (gB G + a)), some (.int (nI i))] [] := by
    intro fuel
    induction fuel with
    | zero => intro i L1 h1 h2 hF1 hC; exfalso; omega
    | succ fuel ih_lp =>
      intro i L1 h1 h2 hF1 hC
      refine j_iload_n C dX3_copy_2 rfl rfl ?_
      refine j_aload_n C dX3_copy_3 rfl rfl ?_
      refine g_getR C (by assumption) fl_X3_13 (by rfl) dX3_copy_4 ?_
      refine g_alenR C (hm2) (by decide) dX3_copy_7 ?_
      first | refine n_icmp_ge (tgt := 32) C (by omega) (by omega) dX3_copy_8 (by decide) (fun h_8 => ?_) (fun h_8 => ?_) | refine j_icmp_ge (tgt := 32) C dX3_copy_8 (by decide) (fun h_8 => ?_) (fun h_8 => ?_)
      · exact j_vret C hr dX3_copy_32 (⟨rfl, hF1, fun k hk => hC k (by omega)⟩)
      · refine j_aload_n C dX3_copy_11 rfl rfl ?_
        refine g_getR C (by assumption) fl_X3_13 (by rfl) dX3_copy_12 ?_
        refine j_iload_n C dX3_copy_15 rfl rfl ?_
        refine g_aald3 C (hm2) (by omega) (by decide) (by rfl) (by omega) dX3_copy_16 ?_
        refine j_aload_n C dX3_copy_17 rfl rfl ?_
        refine g_getR C (by assumption) fl_X3_13 (by rfl) dX3_copy_18 ?_
        refine j_iload_n C dX3_copy_21 rfl rfl ?_
        refine g_aald3 C (hq2) (by omega) (by decide) (by rfl) (by omega) dX3_copy_22 ?_
        have hA := hm3 i (by omega)
        have hB := hq3 i (by omega)
        refine g_cvV C vc_X3_53 (c_X2_copy l G rg _ _ _ _ hA hB) ⟨Nat.le_of_ble_eq_true rfl, Nat.le_of_ble_eq_true rfl⟩ (hA) rfl rfl (Nat.le_of_ble_eq_true rfl) ⟨Nat.zero_le _, Nat.zero_le _⟩ dX3_copy_23 (fun I_23 L_23 p_23 => ?_)
        obtain ⟨rfl, rfl⟩ := p_23
        first | refine n_iinc (n := 1) C dX3_copy_26 rfl (by decide) ?_ | refine j_iinc C dX3_copy_26 rfl rfl (by decide) ?_
        refine j_goto (tgt := 2) C dX3_copy_29 (by decide) ?_
        refine ih_lp (i + 1) _ (by omega) (by omega) (hF1.set (by omega) (by omega)) (fun k hk => ?_)
        rw [fr_setF]
        split
        · next e => rw [show k = i by omega]; exact hF1.fr (by omega)
        · next e => exact hC k (by omega)
  refine j_iconst (v := nI 0) C dX3_copy_0 (by decide) ?_
  refine j_istore_n C dX3_copy_1 rfl (by decide) ?_
  exact lp 26 0 L (by omega) (by omega) Fm.rf (fun k hk => absurd hk (Nat.not_lt_zero k))

theorem TK_cong {f g : Nat → Int32} {o n : Nat} {L : LL} {i j : Nat} (hn : n < 5) (h : ∀ k, k < 25 → f k = g k) (hT : TK f o n L i j) : TK g o n L i j := fun a b ha hb q => by rw [hT a b ha hb q, h _ (ix_lt (by omega) (by omega))]
set_option maxHeartbeats 4000000 in
set_option maxRecDepth 20000 in
theorem c_X3_takeLess (l : Launch) (G : GT) (rg : RgT) (I : II) (L : LL) (o g cn mo n : Nat) (gv cv : Nat → Int32) (hm : isMx rg o) (hg : isFm rg g) (hc : isFm rg cn) (hgv : ∀ k, k < 25 → I (g + 1) k = gv k) (hcv : ∀ k, k < 25 → I (cn + 1) k = cv k) (hmo : isF rg mo) (hmd : ¬ (o + 2 ≤ mo ∧ mo < o + 28)) (hn : n < 5) : CtI l yX3_takeLess cX3_takeLess 8 (some FieldType.boolean) 5 G rg I L [.ref (gB G + o), .ref (gB G + g), .ref (gB G + cn), .ref (gB G + mo), .int (nI n)] (fun r I1 L1 => I = I1 ∧ Fm (o + 2) (o + 28) L L1 ∧ ((r = b2i true ∧ TL gv cv (fr L mo) o n L1 (n + 1) (n + 1)) ∨ (r = b2i false ∧ ∃ i j, i ≤ j ∧ j ≤ n ∧ tlO gv cv (fr L mo) i j = none))) := by
  refine ctI_of [some (.ref (gB G + o)), some (.ref (gB G + g)), some (.ref (gB G + cn)), some (.ref (gB G + mo)), some (.int (nI n)), none, none, none] rfl (Nat.le_of_ble_eq_true rfl) (by decide) ?_
  intro p e s m args below meth c C hr
  obtain ⟨hm1, hm2, hm3⟩ := id hm
  have hot : isF rg (o + 27) := hm3 25 (by omega)
  have hg1 := hg.1
  have hc1 := hc.1
  have lp : ∀ (fuel : Nat) (i : Nat) (L1 : LL), n + 1 < fuel + i → i ≤ n + 1 → Fm (o + 2) (o + 28) L L1 → TL gv cv (fr L mo) o n L1 i i → J p l e (rmD 5) s m args below meth c (MQ below (QI G rg (fun r I1 L1 => I = I1 ∧ Fm (o + 2) (o + 28) L L1 ∧ ((r = b2i true ∧ TL gv cv (fr L mo) o n L1 (n + 1) (n + 1)) ∨ (r = b2i false ∧ ∃ i j, i ≤ j ∧ j ≤ n ∧ tlO gv cv (fr L mo) i j = none)))) args s 0 0 (rg_A G rg)) 8 G rg 0 0 I L1 10 [some (.ref (gB G + o)), some (.ref (gB G + g)), some (.ref (gB G + cn)), some (.ref (gB G + mo)), some (.int (nI n)), some (.int (nI i)), none, none] [] := by
    intro fuel
    induction fuel with
    | zero => intro i L1 h1 h2 hF1 hT1; exfalso; omega
    | succ fuel ih_lp =>
      intro i L1 h1 h2 hF1 hT1
      refine j_iload C dX3_takeLess_10 rfl ?_
      refine j_iload C dX3_takeLess_12 rfl ?_
      first | refine n_icmp_gt (tgt := 147) C (by omega) (by omega) dX3_takeLess_14 (by decide) (fun h_14 => ?_) (fun h_14 => ?_) | refine j_icmp_gt (tgt := 147) C dX3_takeLess_14 (by decide) (fun h_14 => ?_) (fun h_14 => ?_)
      · refine j_iconst (v := nI 1) C dX3_takeLess_147 (by decide) ?_
        exact j_zret C hr (by first | rfl | exact b2i_n _ rfl) dX3_takeLess_148 (⟨rfl, hF1, Or.inl ⟨rfl, fun a b ha hb => ⟨fun _ => (hT1 a b ha hb).1 (by unfold prc; omega), fun q => absurd (show prc (n + 1) (n + 1) a b by unfold prc; omega) q⟩⟩⟩)
      · refine j_iload C dX3_takeLess_17 rfl ?_
        refine j_istore C dX3_takeLess_19 (by decide) ?_
        have lq : ∀ (fuel : Nat) (j : Nat) (L1 : LL), n + 1 < fuel + j → j ≤ n + 1 → i ≤ j → Fm (o + 2) (o + 28) L L1 → TL gv cv (fr L mo) o n L1 i j → J p l e (rmD 5) s m args below meth c (MQ below (QI G rg (fun r I1 L1 => I = I1 ∧ Fm (o + 2) (o + 28) L L1 ∧ ((r = b2i true ∧ TL gv cv (fr L mo) o n L1 (n + 1) (n + 1)) ∨ (r = b2i false ∧ ∃ i j, i ≤ j ∧ j ≤ n ∧ tlO gv cv (fr L mo) i j = none)))) args s 0 0 (rg_A G rg)) 8 G rg 0 0 I L1 21 [some (.ref (gB G + o)), some (.ref (gB G + g)), some (.ref (gB G + cn)), some (.ref (gB G + mo)), some (.int (nI n)), some (.int (nI i)), some (.int (nI j)), none] [] := by
          intro fuel
          induction fuel with
          | zero => intro j L1 q1 q2 q3 hF1 hT1; exfalso; omega
          | succ fuel ih_lq =>
            intro j L1 q1 q2 q3 hF1 hT1
            refine j_iload C dX3_takeLess_21 rfl ?_
            refine j_iload C dX3_takeLess_23 rfl ?_
            first | refine n_icmp_gt (tgt := 141) C (by omega) (by omega) dX3_takeLess_25 (by decide) (fun h_25 => ?_) (fun h_25 => ?_) | refine j_icmp_gt (tgt := 141) C dX3_takeLess_25 (by decide) (fun h_25 => ?_) (fun h_25 => ?_)
            · first | refine n_iinc (n := 1) C dX3_takeLess_141 rfl (by decide) ?_ | refine j_iinc C dX3_takeLess_141 rfl rfl (by decide) ?_
              refine j_goto (tgt := 10) C dX3_takeLess_144 (by decide) ?_
              refine j_rm 6 ?_
              exact ih_lp (i + 1) L1 (by omega) (by omega) hF1 (TL_n hT1 (by omega))
            · refine j_aload_n C dX3_takeLess_28 rfl rfl ?_
              refine g_getR C (by assumption) fl_X3_22 (by rfl) dX3_takeLess_29 ?_
              refine j_aload_n C dX3_takeLess_32 rfl rfl ?_
              refine j_iload C dX3_takeLess_33 rfl ?_
              refine j_iload C dX3_takeLess_35 rfl ?_
              refine g_cvI C vc_X3_30 (c_X1_number l G rg _ _ _ _ _ (by assumption) (by omega) (by omega)) ⟨Nat.le_of_ble_eq_true rfl, Nat.le_of_ble_eq_true rfl⟩ (hc1) rfl rfl (Nat.le_of_ble_eq_true rfl) ⟨Nat.zero_le _, Nat.zero_le _⟩ dX3_takeLess_37 (fun r_37 I_37 L_37 p_37 => ?_)
              obtain ⟨rfl, rfl, rfl⟩ := p_37
              rw [hcv _ (ix_lt (by omega) (by omega))]
              refine j_i2l C dX3_takeLess_40 ?_
              refine j_iload C dX3_takeLess_41 rfl ?_
              refine j_iload C dX3_takeLess_43 rfl ?_
              first | refine n_icmp_ne (tgt := 52) C (by omega) (by omega) dX3_takeLess_45 (by decide) (fun h_45 => ?_) (fun h_45 => ?_) | refine j_icmp_ne (tgt := 52) C dX3_takeLess_45 (by decide) (fun h_45 => ?_) (fun h_45 => ?_)
              · refine j_ldc2 C kc_X3_36 dX3_takeLess_52 ?_
                refine g_cvI C vc_X3_38 (c_X2_put l G rg _ _ _ _ _ hot) ⟨Nat.le_of_ble_eq_true rfl, Nat.le_of_ble_eq_true rfl⟩ (hot) rfl rfl (Nat.le_of_ble_eq_true rfl) ⟨Nat.zero_le _, Nat.zero_le _⟩ dX3_takeLess_55 (fun r_55 I_55 L_55 p_55 => ?_)
                obtain ⟨rfl, rfl, rfl⟩ := Put_some p_55 (hv_2 h_45)
                · have hcw : hv (cv (ix i j)) i j = hv (cv (ix i j)) i j := rfl
                  refine j_if_eq (tgt := 106) C dX3_takeLess_58 (by decide) (fun h_58 => ?_) (fun h_58 => ?_)
                  · exact absurd h_58 (by decide)
                  · refine j_aload_n C dX3_takeLess_61 rfl rfl ?_
                    refine g_getR C (by assumption) fl_X3_22 (by rfl) dX3_takeLess_62 ?_
                    refine j_aload_n C dX3_takeLess_65 rfl rfl ?_
                    refine j_aload_n C dX3_takeLess_66 rfl rfl ?_
                    refine g_getR C (by assumption) fl_X3_22 (by rfl) dX3_takeLess_67 ?_
                    refine g_cvI C vc_X3_46 (c_X2_product l G rg _ _ _ _ _ hot hmo hot) ⟨Nat.le_of_ble_eq_true rfl, Nat.le_of_ble_eq_true rfl⟩ (hot) rfl rfl (Nat.le_of_ble_eq_true rfl) ⟨Nat.zero_le _, Nat.zero_le _⟩ dX3_takeLess_70 (fun r_70 I_70 L_70 p_70 => ?_)
                    rw [fr_setF, if_neg (by omega), fr_setF, if_pos rfl, hF1.fr (by omega)] at p_70
                    obtain ⟨rfl, ⟨z_70, hz_70, rfl, rfl⟩ | ⟨hz_70, rfl, rfl⟩⟩ := p_70
                    · refine j_if_eq (tgt := 106) C dX3_takeLess_73 (by decide) (fun h_73 => ?_) (fun h_73 => ?_)
                      · exact absurd h_73 (by decide)
                      · refine j_aload_n C dX3_takeLess_76 rfl rfl ?_
                        refine j_iload C dX3_takeLess_77 rfl ?_
                        refine j_iload C dX3_takeLess_79 rfl ?_
                        refine g_cvR C vc_X3_26 (c_X3_at l G rg _ _ _ _ _ (by assumption) (by omega) (by omega)) ⟨Nat.le_of_ble_eq_true rfl, Nat.le_of_ble_eq_true rfl⟩ (hm1) rfl rfl (Nat.le_of_ble_eq_true rfl) ⟨Nat.zero_le _, Nat.zero_le _⟩ dX3_takeLess_81 (fun r_81 I_81 L_81 p_81 => ?_)
                        obtain ⟨rfl, rfl, rfl⟩ := p_81
                        refine j_aload_n C dX3_takeLess_84 rfl rfl ?_
                        refine j_iload C dX3_takeLess_85 rfl ?_
                        refine j_iload C dX3_takeLess_87 rfl ?_
                        refine g_cvR C vc_X3_26 (c_X3_at l G rg _ _ _ _ _ (by assumption) (by omega) (by omega)) ⟨Nat.le_of_ble_eq_true rfl, Nat.le_of_ble_eq_true rfl⟩ (hm1) rfl rfl (Nat.le_of_ble_eq_true rfl) ⟨Nat.zero_le _, Nat.zero_le _⟩ dX3_takeLess_89 (fun r_89 I_89 L_89 p_89 => ?_)
                        obtain ⟨rfl, rfl, rfl⟩ := p_89
                        refine j_aload_n C dX3_takeLess_92 rfl rfl ?_
                        refine g_getR C (by assumption) fl_X3_22 (by rfl) dX3_takeLess_93 ?_
                        have hA := hm3 (i * 5 + j) (by omega)
                        refine g_cvI C vc_X3_50 (c_X2_difference l G rg _ _ _ _ _ hA hA hot) ⟨Nat.le_of_ble_eq_true rfl, Nat.le_of_ble_eq_true rfl⟩ (hA) rfl rfl (Nat.le_of_ble_eq_true rfl) ⟨Nat.zero_le _, Nat.zero_le _⟩ dX3_takeLess_96 (fun r_96 I_96 L_96 p_96 => ?_)
                        rw [fr_setF, if_neg (by omega), fr_setF, if_neg (by omega), fr_setF, if_pos rfl, (hT1 i j (by omega) (by omega)).2 (by unfold prc; omega)] at p_96
                        obtain ⟨rfl, ⟨z_96, hz_96, rfl, rfl⟩ | ⟨hz_96, rfl, rfl⟩⟩ := p_96
                        · have htl : tlO gv cv (fr L mo) i j = some z_96 := by unfold tlO; rw [hz_70]; exact hz_96
                          refine j_if_eq (tgt := 106) C dX3_takeLess_99 (by decide) (fun h_99 => ?_) (fun h_99 => ?_)
                          · exact absurd h_99 (by decide)
                          · refine j_iconst (v := nI 1) C dX3_takeLess_102 (by decide) ?_
                            refine j_goto (tgt := 107) C dX3_takeLess_103 (by decide) ?_
                            refine j_istore C dX3_takeLess_107 (by decide) ?_
                            refine j_iload C dX3_takeLess_109 rfl ?_
                            refine j_if_ne (tgt := 116) C dX3_takeLess_111 (by decide) (fun h_111 => ?_) (fun h_111 => ?_)
                            · refine j_aload_n C dX3_takeLess_116 rfl rfl ?_
                              refine j_iload C dX3_takeLess_117 rfl ?_
                              refine j_iload C dX3_takeLess_119 rfl ?_
                              refine g_cvR C vc_X3_26 (c_X3_at l G rg _ _ _ _ _ (by assumption) (by omega) (by omega)) ⟨Nat.le_of_ble_eq_true rfl, Nat.le_of_ble_eq_true rfl⟩ (hm1) rfl rfl (Nat.le_of_ble_eq_true rfl) ⟨Nat.zero_le _, Nat.zero_le _⟩ dX3_takeLess_121 (fun r_121 I_121 L_121 p_121 => ?_)
                              obtain ⟨rfl, rfl, rfl⟩ := p_121
                              refine j_aload_n C dX3_takeLess_124 rfl rfl ?_
                              refine j_iload C dX3_takeLess_125 rfl ?_
                              refine j_iload C dX3_takeLess_127 rfl ?_
                              refine g_cvR C vc_X3_26 (c_X3_at l G rg _ _ _ _ _ (by assumption) (by omega) (by omega)) ⟨Nat.le_of_ble_eq_true rfl, Nat.le_of_ble_eq_true rfl⟩ (hm1) rfl rfl (Nat.le_of_ble_eq_true rfl) ⟨Nat.zero_le _, Nat.zero_le _⟩ dX3_takeLess_129 (fun r_129 I_129 L_129 p_129 => ?_)
                              obtain ⟨rfl, rfl, rfl⟩ := p_129
                              have hA2 := hm3 (i * 5 + j) (by omega)
                              have hB2 := hm3 (j * 5 + i) (by omega)
                              refine g_cvV C vc_X3_53 (c_X2_copy l G rg _ _ _ _ hB2 hA2) ⟨Nat.le_of_ble_eq_true rfl, Nat.le_of_ble_eq_true rfl⟩ (hB2) rfl rfl (Nat.le_of_ble_eq_true rfl) ⟨Nat.zero_le _, Nat.zero_le _⟩ dX3_takeLess_132 (fun I_132 L_132 p_132 => ?_)
                              obtain ⟨rfl, rfl⟩ := p_132
                              first | refine n_iinc (n := 1) C dX3_takeLess_135 rfl (by decide) ?_ | refine j_iinc C dX3_takeLess_135 rfl rfl (by decide) ?_
                              refine j_goto (tgt := 21) C dX3_takeLess_138 (by decide) ?_
                              refine j_rm 7 ?_
                              refine ih_lq (j + 1) _ (by omega) (by omega) (by omega) ((((hF1.set (by omega) (by omega)).set (by omega) (by omega)).set (by omega) (by omega)).set (by omega) (by omega)) (TL_s hT1 hn q3 (by omega) htl ?_ ?_ (fun q w1 w2 w3 => ?_))
                              · simp only [fr_setF]; split <;> simp_all
                              · simp only [fr_setF]; simp
                              · simp only [fr_setF]; rw [if_neg (by omega), if_neg (by omega), if_neg (by omega), if_neg (by omega)]
                            · exact absurd h_111 (by decide)
                        · have htl : tlO gv cv (fr L mo) i j = none := by unfold tlO; rw [hz_70]; exact hz_96
                          refine j_if_eq (tgt := 106) C dX3_takeLess_99 (by decide) (fun h_99 => ?_) (fun h_99 => ?_)
                          · refine j_iconst (v := nI 0) C dX3_takeLess_106 (by decide) ?_
                            refine j_istore C dX3_takeLess_107 (by decide) ?_
                            refine j_iload C dX3_takeLess_109 rfl ?_
                            refine j_if_ne (tgt := 116) C dX3_takeLess_111 (by decide) (fun h_111 => ?_) (fun h_111 => ?_)
                            · exact absurd rfl h_111
                            · refine j_iconst (v := nI 0) C dX3_takeLess_114 (by decide) ?_
                              exact j_zret C hr (by first | rfl | exact b2i_n _ rfl) dX3_takeLess_115 (⟨rfl, by first | exact (((hF1.set (by omega) (by omega)).set (by omega) (by omega)).set (by omega) (by omega)) | exact ((hF1.set (by omega) (by omega)).set (by omega) (by omega)) | exact (hF1.set (by omega) (by omega)), Or.inr ⟨rfl, i, j, by omega, by omega, by first | exact htl | (unfold tlO; rw [hz_70]; rfl)⟩⟩)
                          · exact absurd rfl h_99
                    · refine j_if_eq (tgt := 106) C dX3_takeLess_73 (by decide) (fun h_73 => ?_) (fun h_73 => ?_)
                      · refine j_iconst (v := nI 0) C dX3_takeLess_106 (by decide) ?_
                        refine j_istore C dX3_takeLess_107 (by decide) ?_
                        refine j_iload C dX3_takeLess_109 rfl ?_
                        refine j_if_ne (tgt := 116) C dX3_takeLess_111 (by decide) (fun h_111 => ?_) (fun h_111 => ?_)
                        · exact absurd rfl h_111
                        · refine j_iconst (v := nI 0) C dX3_takeLess_114 (by decide) ?_
                          exact j_zret C hr (by first | rfl | exact b2i_n _ rfl) dX3_takeLess_115 (⟨rfl, by first | exact (((hF1.set (by omega) (by omega)).set (by omega) (by omega)).set (by omega) (by omega)) | exact ((hF1.set (by omega) (by omega)).set (by omega) (by omega)) | exact (hF1.set (by omega) (by omega)), Or.inr ⟨rfl, i, j, by omega, by omega, by first | exact htl | (unfold tlO; rw [hz_70]; rfl)⟩⟩)
                      · exact absurd rfl h_73
              · refine j_lconst (v := 1) C dX3_takeLess_48 (by decide) ?_
                refine j_goto (tgt := 55) C dX3_takeLess_49 (by decide) ?_
                refine g_cvI C vc_X3_38 (c_X2_put l G rg _ _ _ _ _ hot) ⟨Nat.le_of_ble_eq_true rfl, Nat.le_of_ble_eq_true rfl⟩ (hot) rfl rfl (Nat.le_of_ble_eq_true rfl) ⟨Nat.zero_le _, Nat.zero_le _⟩ dX3_takeLess_55 (fun r_55 I_55 L_55 p_55 => ?_)
                obtain ⟨rfl, rfl, rfl⟩ := Put_some p_55 (hv_1 h_45)
                · have hcw : hv (cv (ix i j)) i j = hv (cv (ix i j)) i j := rfl
                  refine j_if_eq (tgt := 106) C dX3_takeLess_58 (by decide) (fun h_58 => ?_) (fun h_58 => ?_)
                  · exact absurd h_58 (by decide)
                  · refine j_aload_n C dX3_takeLess_61 rfl rfl ?_
                    refine g_getR C (by assumption) fl_X3_22 (by rfl) dX3_takeLess_62 ?_
                    refine j_aload_n C dX3_takeLess_65 rfl rfl ?_
                    refine j_aload_n C dX3_takeLess_66 rfl rfl ?_
                    refine g_getR C (by assumption) fl_X3_22 (by rfl) dX3_takeLess_67 ?_
                    refine g_cvI C vc_X3_46 (c_X2_product l G rg _ _ _ _ _ hot hmo hot) ⟨Nat.le_of_ble_eq_true rfl, Nat.le_of_ble_eq_true rfl⟩ (hot) rfl rfl (Nat.le_of_ble_eq_true rfl) ⟨Nat.zero_le _, Nat.zero_le _⟩ dX3_takeLess_70 (fun r_70 I_70 L_70 p_70 => ?_)
                    rw [fr_setF, if_neg (by omega), fr_setF, if_pos rfl, hF1.fr (by omega)] at p_70
                    obtain ⟨rfl, ⟨z_70, hz_70, rfl, rfl⟩ | ⟨hz_70, rfl, rfl⟩⟩ := p_70
                    · refine j_if_eq (tgt := 106) C dX3_takeLess_73 (by decide) (fun h_73 => ?_) (fun h_73 => ?_)
                      · exact absurd h_73 (by decide)
                      · refine j_aload_n C dX3_takeLess_76 rfl rfl ?_
                        refine j_iload C dX3_takeLess_77 rfl ?_
                        refine j_iload C dX3_takeLess_79 rfl ?_
                        refine g_cvR C vc_X3_26 (c_X3_at l G rg _ _ _ _ _ (by assumption) (by omega) (by omega)) ⟨Nat.le_of_ble_eq_true rfl, Nat.le_of_ble_eq_true rfl⟩ (hm1) rfl rfl (Nat.le_of_ble_eq_true rfl) ⟨Nat.zero_le _, Nat.zero_le _⟩ dX3_takeLess_81 (fun r_81 I_81 L_81 p_81 => ?_)
                        obtain ⟨rfl, rfl, rfl⟩ := p_81
                        refine j_aload_n C dX3_takeLess_84 rfl rfl ?_
                        refine j_iload C dX3_takeLess_85 rfl ?_
                        refine j_iload C dX3_takeLess_87 rfl ?_
                        refine g_cvR C vc_X3_26 (c_X3_at l G rg _ _ _ _ _ (by assumption) (by omega) (by omega)) ⟨Nat.le_of_ble_eq_true rfl, Nat.le_of_ble_eq_true rfl⟩ (hm1) rfl rfl (Nat.le_of_ble_eq_true rfl) ⟨Nat.zero_le _, Nat.zero_le _⟩ dX3_takeLess_89 (fun r_89 I_89 L_89 p_89 => ?_)
                        obtain ⟨rfl, rfl, rfl⟩ := p_89
                        refine j_aload_n C dX3_takeLess_92 rfl rfl ?_
                        refine g_getR C (by assumption) fl_X3_22 (by rfl) dX3_takeLess_93 ?_
                        have hA := hm3 (i * 5 + j) (by omega)
                        refine g_cvI C vc_X3_50 (c_X2_difference l G rg _ _ _ _ _ hA hA hot) ⟨Nat.le_of_ble_eq_true rfl, Nat.le_of_ble_eq_true rfl⟩ (hA) rfl rfl (Nat.le_of_ble_eq_true rfl) ⟨Nat.zero_le _, Nat.zero_le _⟩ dX3_takeLess_96 (fun r_96 I_96 L_96 p_96 => ?_)
                        rw [fr_setF, if_neg (by omega), fr_setF, if_neg (by omega), fr_setF, if_pos rfl, (hT1 i j (by omega) (by omega)).2 (by unfold prc; omega)] at p_96
                        obtain ⟨rfl, ⟨z_96, hz_96, rfl, rfl⟩ | ⟨hz_96, rfl, rfl⟩⟩ := p_96
                        · have htl : tlO gv cv (fr L mo) i j = some z_96 := by unfold tlO; rw [hz_70]; exact hz_96
                          refine j_if_eq (tgt := 106) C dX3_takeLess_99 (by decide) (fun h_99 => ?_) (fun h_99 => ?_)
                          · exact absurd h_99 (by decide)
                          · refine j_iconst (v := nI 1) C dX3_takeLess_102 (by decide) ?_
                            refine j_goto (tgt := 107) C dX3_takeLess_103 (by decide) ?_
                            refine j_istore C dX3_takeLess_107 (by decide) ?_
                            refine j_iload C dX3_takeLess_109 rfl ?_
                            refine j_if_ne (tgt := 116) C dX3_takeLess_111 (by decide) (fun h_111 => ?_) (fun h_111 => ?_)
                            · refine j_aload_n C dX3_takeLess_116 rfl rfl ?_
                              refine j_iload C dX3_takeLess_117 rfl ?_
                              refine j_iload C dX3_takeLess_119 rfl ?_
                              refine g_cvR C vc_X3_26 (c_X3_at l G rg _ _ _ _ _ (by assumption) (by omega) (by omega)) ⟨Nat.le_of_ble_eq_true rfl, Nat.le_of_ble_eq_true rfl⟩ (hm1) rfl rfl (Nat.le_of_ble_eq_true rfl) ⟨Nat.zero_le _, Nat.zero_le _⟩ dX3_takeLess_121 (fun r_121 I_121 L_121 p_121 => ?_)
                              obtain ⟨rfl, rfl, rfl⟩ := p_121
                              refine j_aload_n C dX3_takeLess_124 rfl rfl ?_
                              refine j_iload C dX3_takeLess_125 rfl ?_
                              refine j_iload C dX3_takeLess_127 rfl ?_
                              refine g_cvR C vc_X3_26 (c_X3_at l G rg _ _ _ _ _ (by assumption) (by omega) (by omega)) ⟨Nat.le_of_ble_eq_true rfl, Nat.le_of_ble_eq_true rfl⟩ (hm1) rfl rfl (Nat.le_of_ble_eq_true rfl) ⟨Nat.zero_le _, Nat.zero_le _⟩ dX3_takeLess_129 (fun r_129 I_129 L_129 p_129 => ?_)
                              obtain ⟨rfl, rfl, rfl⟩ := p_129
                              have hA2 := hm3 (i * 5 + j) (by omega)
                              have hB2 := hm3 (j * 5 + i) (by omega)
                              refine g_cvV C vc_X3_53 (c_X2_copy l G rg _ _ _ _ hB2 hA2) ⟨Nat.le_of_ble_eq_true rfl, Nat.le_of_ble_eq_true rfl⟩ (hB2) rfl rfl (Nat.le_of_ble_eq_true rfl) ⟨Nat.zero_le _, Nat.zero_le _⟩ dX3_takeLess_132 (fun I_132 L_132 p_132 => ?_)
                              obtain ⟨rfl, rfl⟩ := p_132
                              first | refine n_iinc (n := 1) C dX3_takeLess_135 rfl (by decide) ?_ | refine j_iinc C dX3_takeLess_135 rfl rfl (by decide) ?_
                              refine j_goto (tgt := 21) C dX3_takeLess_138 (by decide) ?_
                              refine j_rm 7 ?_
                              refine ih_lq (j + 1) _ (by omega) (by omega) (by omega) ((((hF1.set (by omega) (by omega)).set (by omega) (by omega)).set (by omega) (by omega)).set (by omega) (by omega)) (TL_s hT1 hn q3 (by omega) htl ?_ ?_ (fun q w1 w2 w3 => ?_))
                              · simp only [fr_setF]; split <;> simp_all
                              · simp only [fr_setF]; simp
                              · simp only [fr_setF]; rw [if_neg (by omega), if_neg (by omega), if_neg (by omega), if_neg (by omega)]
                            · exact absurd h_111 (by decide)
                        · have htl : tlO gv cv (fr L mo) i j = none := by unfold tlO; rw [hz_70]; exact hz_96
                          refine j_if_eq (tgt := 106) C dX3_takeLess_99 (by decide) (fun h_99 => ?_) (fun h_99 => ?_)
                          · refine j_iconst (v := nI 0) C dX3_takeLess_106 (by decide) ?_
                            refine j_istore C dX3_takeLess_107 (by decide) ?_
                            refine j_iload C dX3_takeLess_109 rfl ?_
                            refine j_if_ne (tgt := 116) C dX3_takeLess_111 (by decide) (fun h_111 => ?_) (fun h_111 => ?_)
                            · exact absurd rfl h_111
                            · refine j_iconst (v := nI 0) C dX3_takeLess_114 (by decide) ?_
                              exact j_zret C hr (by first | rfl | exact b2i_n _ rfl) dX3_takeLess_115 (⟨rfl, by first | exact (((hF1.set (by omega) (by omega)).set (by omega) (by omega)).set (by omega) (by omega)) | exact ((hF1.set (by omega) (by omega)).set (by omega) (by omega)) | exact (hF1.set (by omega) (by omega)), Or.inr ⟨rfl, i, j, by omega, by omega, by first | exact htl | (unfold tlO; rw [hz_70]; rfl)⟩⟩)
                          · exact absurd rfl h_99
                    · refine j_if_eq (tgt := 106) C dX3_takeLess_73 (by decide) (fun h_73 => ?_) (fun h_73 => ?_)
                      · refine j_iconst (v := nI 0) C dX3_takeLess_106 (by decide) ?_
                        refine j_istore C dX3_takeLess_107 (by decide) ?_
                        refine j_iload C dX3_takeLess_109 rfl ?_
                        refine j_if_ne (tgt := 116) C dX3_takeLess_111 (by decide) (fun h_111 => ?_) (fun h_111 => ?_)
                        · exact absurd rfl h_111
                        · refine j_iconst (v := nI 0) C dX3_takeLess_114 (by decide) ?_
                          exact j_zret C hr (by first | rfl | exact b2i_n _ rfl) dX3_takeLess_115 (⟨rfl, by first | exact (((hF1.set (by omega) (by omega)).set (by omega) (by omega)).set (by omega) (by omega)) | exact ((hF1.set (by omega) (by omega)).set (by omega) (by omega)) | exact (hF1.set (by omega) (by omega)), Or.inr ⟨rfl, i, j, by omega, by omega, by first | exact htl | (unfold tlO; rw [hz_70]; rfl)⟩⟩)
                      · exact absurd rfl h_73
        exact lq (n + 2) i L1 (by omega) (by omega) (by omega) hF1 hT1
  refine j_aload_n C dX3_takeLess_0 rfl rfl ?_
  refine j_aload_n C dX3_takeLess_1 rfl rfl ?_
  refine j_iload C dX3_takeLess_2 rfl ?_
  refine g_cvV C vc_X3_42 (c_X3_take l G rg I L o g n hm hg hn) ⟨Nat.le_of_ble_eq_true rfl, Nat.le_of_ble_eq_true rfl⟩ (hm1) rfl rfl (Nat.le_of_ble_eq_true rfl) ⟨Nat.zero_le _, Nat.zero_le _⟩ dX3_takeLess_4 (fun I_4 L_4 p_4 => ?_)
  obtain ⟨rfl, hF0, hT0⟩ := p_4
  have hT0 := TK_cong hn hgv hT0
  refine j_iconst (v := nI 0) C dX3_takeLess_7 (by decide) ?_
  refine j_istore C dX3_takeLess_8 (by decide) ?_
  exact lp (n + 2) 0 _ (by omega) (by omega) (hF0.mono (by omega) (by omega)) (TL_0 hT0)
