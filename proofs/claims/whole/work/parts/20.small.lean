/-! ===== variables, form, term, count, plain, value, plant ===== -/
def varsR (A : AS) (x : Int32) : Int32 := if x < 1 ∨ ¬ x ≤ 4 then -1 else nI (aF A)
def varsS (A : AS) (x : Int32) : AS := if x < 1 ∨ ¬ x ≤ 4 then A else (x.toNatClampNeg, 0, 0, aV A, fun _ => 0, aE A, aM A, none)
def formR (A : AS) : Int32 := if aF A < 12 then nI (aF A) else -3
def formS (A : AS) : AS := if aF A < 12 then (aN A, aF A + 1, aP A, va_up (aV A) (aF A) (fun j => if j < 25 then 0 else aV A (aF A) j), A.2.2.2.2) else A
def termOk (A : AS) (f i j v : Int32) : Prop := okF f (aF A) = true ∧ okI i (aN A) = true ∧ okI j (aN A) = true ∧ ¬ v < -1000000 ∧ v ≤ 1000000
noncomputable def termR (A : AS) (f i j v : Int32) : Int32 := cif (termOk A f i j v) (aV A f.toNatClampNeg (ix i.toNatClampNeg j.toNatClampNeg)) (-2000000)
noncomputable def termS (A : AS) (f i j v : Int32) : AS := cif (termOk A f i j v) (aN A, aF A, aP A, up2 (aV A) f.toNatClampNeg (ix i.toNatClampNeg j.toNatClampNeg) v, A.2.2.2.2) A
def countR (A : AS) (x : Int32) : Int32 := if x = 0 then nI (aN A) else if x = 1 then nI (aF A) else if x = 2 then nI (aP A) else -1
def mxF (A : AS) (f : Nat) : Nat → Nat → Fr := fun i j => hv (aV A f (ix i j)) i j
noncomputable def plainR (A : AS) (x : Int32) : Int32 := if okF x (aF A) = true then plainF (aN A) (aN A + 1) 0 0 (E0 (aN A) (mxF A x.toNatClampNeg)) else -1
def plantR (A : AS) (x : Int32) (u v : Int64) : Int32 := if okS A x = true ∧ ¬ v = 0 then (if u = LEA ∨ v = LEA then -30 else 0) else -1
def plantS (A : AS) (x : Int32) (u v : Int64) : AS := if okS A x = true ∧ ¬ v = 0 ∧ ¬ u = LEA ∧ ¬ v = LEA then (aN A, aF A, aP A, aV A, aT A, ((aE A).1, (aE A).2.1, (aE A).2.2.1, (aE A).2.2.2.1, va_up (eW (aE A)) x.toNatClampNeg (red u v), (aE A).2.2.2.2.2), aM A, aX A) else A
/-- the cells that other methods read are as they were -/
theorem RC.cong {A : AS} {I I1 : II} {L L1 : LL} (h : RC A I L) (hok : aok A) (h0 : I1 0 = I 0) (h1 : ∀ f, f < 12 → I1 (203 + 2 * f) = I (203 + 2 * f)) (h2 : I1 2 = I 2) (h3 : I1 190 = I 190) (h4 : ∀ q, 32 ≤ q → q < 111 → I1 q = I q) (h5 : ∀ q, 32 ≤ q → q < 111 → L1 q = L q) (h6 : ∀ q, 4 ≤ q → q < 31 → L1 q = L q) (h7 : ∀ q, 192 ≤ q → q < 197 → L1 q = L q) : RC A I1 L1 := by
  obtain ⟨rN, rF, rP, rV, rT, rX, rx0, rXv, rE⟩ := h
  have hn := hok.2.1
  have f0 : ∀ q, L1 q = L q → fr L1 q = fr L q := fun q e => by unfold fr; rw [e]
  refine ⟨by rw [h0]; exact rN, by rw [h0]; exact rF, by rw [h0]; exact rP, fun f k hf hk => by rw [h1 f hf]; exact rV f k hf hk, fun k hk => by rw [h2]; exact rT k hk, by rw [h3]; exact rX, by rw [f0 _ (h7 192 (by omega) (by omega))]; exact rx0, fun X hX k k1 k2 => by rw [f0 _ (h7 _ (by omega) (by omega))]; exact rXv X hX k k1 k2, fun e => ?_⟩
  obtain ⟨r1, r2⟩ := rE e
  refine ⟨r1.cong (by omega) (by rw [h4 _ (by omega) (by omega)]) (by rw [h4 _ (by omega) (by omega)]) (fun q hq => f0 _ (h5 _ (by omega) (by omega))) (h4 _ (by omega) (by omega)) (fun s hs => by rw [h4 _ (by omega) (by omega)]) (fun q q1 q2 => f0 _ (h5 _ (by omega) (by omega))), fun i j hi hj => by rw [f0 _ (h6 _ (by omega) (by omega))]; exact r2 i j hi hj⟩
theorem Fm.at {α : Type} {lo hi q : Nat} {f g : Nat → α} (h : Fm lo hi f g) (hq : q < lo ∨ hi ≤ q) : g q = f q := h q (by omega)
/-- the value of a form at whole numbers, as the class sums it -/
def inJ (f : Nat → Int32) (x : Nat → Int64) (n i : Nat) : Nat → Int64 → Int64
  | 0, a => a
  | k + 1, a => inJ f x n i k (a + (f (i * 5 + (n - k))).toInt64 * x (n - k))
def inI (f : Nat → Int32) (x : Nat → Int64) (n : Nat) : Nat → Int64 → Int64
  | 0, a => a
  | k + 1, a => inI f x n k (a + inJ f x n (n - k) (k + 1) 0 * x (n - k))
theorem inJ_s {f : Nat → Int32} {x : Nat → Int64} {n i j : Nat} {a : Int64} (hj : j ≤ n) : inJ f x n i (n + 1 - j) a = inJ f x n i (n + 1 - (j + 1)) (a + (f (i * 5 + j)).toInt64 * x j) := by
  rw [show n + 1 - j = (n - j) + 1 by omega, inJ, show n - (n - j) = j by omega, show n + 1 - (j + 1) = n - j by omega]
theorem inI_s {f : Nat → Int32} {x : Nat → Int64} {n i : Nat} {a : Int64} (hi : i ≤ n) : inI f x n (n + 1 - i) a = inI f x n (n + 1 - (i + 1)) (a + inJ f x n i (n + 1 - i) 0 * x i) := by
  rw [show n + 1 - i = (n - i) + 1 by omega, inI, show n - (n - i) = i by omega, show n + 1 - (i + 1) = n - i by omega]
def wh5 (a b c d : Int32) (k : Nat) : Int64 := if k = 0 then 1 else if k = 1 then a.toInt64 else if k = 2 then b.toInt64 else if k = 3 then c.toInt64 else d.toInt64
def valOk (A : AS) (f a b c d : Int32) : Prop := okF f (aF A) = true ∧ ∀ k, 1 ≤ k → k ≤ aN A → ¬ wh5 a b c d k < -1000 ∧ wh5 a b c d k ≤ 1000
noncomputable def valueR (A : AS) (f a b c d : Int32) : Int64 := cif (valOk A f a b c d) (inI (aV A f.toNatClampNeg) (wh5 a b c d) (aN A) (aN A + 1) 0) (-1)
theorem inJ_cong {f g : Nat → Int32} {x y : Nat → Int64} {n i : Nat} (hn : n < 5) (hi : i ≤ n) (h : ∀ k, k < 25 → f k = g k) (h2 : ∀ k, k ≤ n → x k = y k) : ∀ k a, inJ f x n i k a = inJ g y n i k a
  | 0, _ => rfl
  | k + 1, a => by rw [inJ, inJ, h _ (by omega), h2 _ (by omega), inJ_cong hn hi h h2 k]
theorem inI_cong {f g : Nat → Int32} {x y : Nat → Int64} {n : Nat} (hn : n < 5) (h : ∀ k, k < 25 → f k = g k) (h2 : ∀ k, k ≤ n → x k = y k) : ∀ k a, inI f x n k a = inI g y n k a
  | 0, _ => rfl
  | k + 1, a => by rw [inI, inI, inJ_cong hn (by omega) h h2, h2 _ (by omega), inI_cong hn h h2 k]

section TSW
variable {p : Program} {l : Launch} {e : Env} {R : Room} {s : State} {m : MethodId} {args : Array Value} {below : List Frame} {meth : Method} {c : Code} {Q : State → Prop} {cc : ByteArray} {nL : Nat} {own : String} {G : GT} {rg : RgT} {kc ks : Nat} {I : II} {L : LL} {pc : Nat} {lv : LV} {st : List Value}
theorem j_tsIn (C : Cx p s m args meth c cc nL own G) {dflt lo hi : Int} {offs : Array Int} {len : Nat} {x : Int32} {off : Int} {tgt : Nat} (d : decode cc pc = .ok (.tableswitch dflt lo hi offs, len)) (h1 : ¬ x.toInt < lo) (h2 : ¬ hi < x.toInt) (ho : offs[(x.toInt - lo).toNat]? = some off) (ht : (pc : Int) + off = (tgt : Int)) (k : J p l e R s m args below meth c Q nL G rg kc ks I L tgt lv st) : J p l e R s m args below meth c Q nL G rg kc ks I L pc lv (.int x :: st) := fun H locs ls hP hS hl => lv_tableIn C.1 C.2.1 d h1 h2 ho ht (k H locs ls hP hS hl)
theorem j_tsOut (C : Cx p s m args meth c cc nL own G) {dflt lo hi : Int} {offs : Array Int} {len : Nat} {x : Int32} {tgt : Nat} (d : decode cc pc = .ok (.tableswitch dflt lo hi offs, len)) (h : x.toInt < lo ∨ hi < x.toInt) (ht : (pc : Int) + dflt = (tgt : Int)) (k : J p l e R s m args below meth c Q nL G rg kc ks I L tgt lv st) : J p l e R s m args below meth c Q nL G rg kc ks I L pc lv (.int x :: st) := fun H locs ls hP hS hl => lv_tableOut C.1 C.2.1 d h ht (k H locs ls hP hS hl)
end TSW
theorem ts3 {x : Int32} (h0 : ¬ x = 0) (h1 : ¬ x = 1) (h2 : ¬ x = 2) : x.toInt < 0 ∨ 2 < x.toInt := by
  have a0 := lv_neT h0 (show (0 : Int32).toInt = 0 by decide)
  have a1 := lv_neT h1 (show (1 : Int32).toInt = 1 by decide)
  have a2 := lv_neT h2 (show (2 : Int32).toInt = 2 by decide)
  omega
set_option maxHeartbeats 4000000 in
set_option maxRecDepth 20000 in
theorem c_X6_count (l : Launch) (G : GT) (rg : RgT) (I : II) (L : LL) (A : AS) (x : Int32) (hss : isSS rg) (hRC : RC A I L) (hok : aok A) : CtI l yX6_count cX6_count 2 (some FieldType.int) 8 G rg I L [.ref (gB G + 0), .int x] (fun r I1 L1 => r = countR A x ∧ I = I1 ∧ L = L1) := by
  refine ctI_of [some (.ref (gB G + 0)), some (.int x)] rfl (Nat.le_of_ble_eq_true rfl) (by decide) ?_
  intro p e s m args below meth c C hr
  obtain ⟨so1, so2, so3, so4, so5, so6, so7, so8, so9, so10, so11, so12⟩ := id hss
  obtain ⟨rN, rF, rP, rV, rT, rX, rx0, rXv, rE⟩ := id hRC
  obtain ⟨kN, kN4, kF, kT, kT0, kP⟩ := id hok
  refine j_iload_n C dX6_count_0 rfl rfl ?_
  by_cases c_0 : x = 0
  · subst c_0
    refine j_tsIn (tgt := 28) (off := 27) C dX6_count_1 (by decide) (by decide) (by decide) (by decide) ?_
    refine j_aload_n C dX6_count_28 rfl rfl ?_
    refine g_getI C (by assumption) fl_X6_60 (by rfl) dX6_count_29 ?_
    refine t_i rN ?_
    exact j_iret C hr dX6_count_32 (⟨by unfold countR; first | rfl | simp, rfl, rfl⟩)
  by_cases c_1 : x = 1
  · subst c_1
    refine j_tsIn (tgt := 33) (off := 32) C dX6_count_1 (by decide) (by decide) (by decide) (by decide) ?_
    refine j_aload_n C dX6_count_33 rfl rfl ?_
    refine g_getI C (by assumption) fl_X6_64 (by rfl) dX6_count_34 ?_
    refine t_i rF ?_
    exact j_iret C hr dX6_count_37 (⟨by unfold countR; first | rfl | simp, rfl, rfl⟩)
  by_cases c_2 : x = 2
  · subst c_2
    refine j_tsIn (tgt := 38) (off := 37) C dX6_count_1 (by decide) (by decide) (by decide) (by decide) ?_
    refine j_aload_n C dX6_count_38 rfl rfl ?_
    refine g_getI C (by assumption) fl_X6_67 (by rfl) dX6_count_39 ?_
    refine t_i rP ?_
    exact j_iret C hr dX6_count_42 (⟨by unfold countR; first | rfl | simp, rfl, rfl⟩)
  refine j_tsOut (tgt := 43) C dX6_count_1 (ts3 c_0 c_1 c_2) (by decide) ?_
  refine j_iconst (v := (-1)) C dX6_count_43 (by decide) ?_
  exact j_iret C hr dX6_count_44 (⟨by unfold countR; rw [if_neg c_0, if_neg c_1, if_neg c_2], rfl, rfl⟩)

theorem vr_x {x : Int32} (h1 : ¬ x < 1) (h2 : x ≤ 4) : x = nI x.toNatClampNeg ∧ 1 ≤ x.toNatClampNeg ∧ x.toNatClampNeg ≤ 4 := by
  rw [Int32.lt_iff_toInt_lt, show (1 : Int32).toInt = 1 by decide] at h1
  rw [Int32.le_iff_toInt_le, show (4 : Int32).toInt = 4 by decide] at h2
  have h0 : 0 ≤ x.toInt := by omega
  have := clampJ h0
  exact ⟨clampI h0, by omega, by omega⟩
set_option maxHeartbeats 4000000 in
set_option maxRecDepth 20000 in
theorem c_X6_variables (l : Launch) (G : GT) (rg : RgT) (I : II) (L : LL) (A : AS) (x : Int32) (hss : isSS rg) (hRC : RC A I L) (hok : aok A) : CtI l yX6_variables cX6_variables 3 (some FieldType.int) 8 G rg I L [.ref (gB G + 0), .int x] (fun r I1 L1 => r = varsR A x ∧ RC (varsS A x) I1 L1) := by
  refine ctI_of [some (.ref (gB G + 0)), some (.int x), none] rfl (Nat.le_of_ble_eq_true rfl) (by decide) ?_
  intro p e s m args below meth c C hr
  obtain ⟨so1, so2, so3, so4, so5, so6, so7, so8, so9, so10, so11, so12⟩ := id hss
  obtain ⟨rN, rF, rP, rV, rT, rX, rx0, rXv, rE⟩ := id hRC
  obtain ⟨kN, kN4, kF, kT, kT0, kP⟩ := id hok
  obtain ⟨po1, po2, po3, po4, po5⟩ := id so8
  refine j_iload_n C dX6_variables_0 rfl rfl ?_
  refine j_iconst (v := (1)) C dX6_variables_1 (by decide) ?_
  refine j_icmp_lt (tgt := 10) C dX6_variables_2 (by decide) (fun h_2 => ?_) (fun h_2 => ?_)
  · refine j_iconst (v := (-1)) C dX6_variables_10 (by decide) ?_
    exact j_iret C hr dX6_variables_11 (by unfold varsR varsS; first | (rw [if_pos (Or.inl h_2), if_pos (Or.inl h_2)]; exact ⟨rfl, hRC⟩) | (rw [if_pos (Or.inr h_7), if_pos (Or.inr h_7)]; exact ⟨rfl, hRC⟩))
  · refine j_iload_n C dX6_variables_5 rfl rfl ?_
    refine j_iconst (v := (4)) C dX6_variables_6 (by decide) ?_
    refine j_icmp_le (tgt := 12) C dX6_variables_7 (by decide) (fun h_7 => ?_) (fun h_7 => ?_)
    · refine j_aload_n C dX6_variables_12 rfl rfl ?_
      refine g_getI C (by assumption) fl_X6_64 (by rfl) dX6_variables_13 ?_
      refine t_i rF ?_
      refine j_istore_n C dX6_variables_16 rfl (by decide) ?_
      refine j_aload_n C dX6_variables_17 rfl rfl ?_
      refine j_iload_n C dX6_variables_18 rfl rfl ?_
      refine g_putI C (by assumption) fw_X6_60 (by rfl) rfl (fits_int _) dX6_variables_19 ?_
      refine j_aload_n C dX6_variables_22 rfl rfl ?_
      refine j_iconst (v := nI 0) C dX6_variables_23 (by decide) ?_
      refine g_putI C (by assumption) fw_X6_64 (by rfl) rfl (fits_int _) dX6_variables_24 ?_
      refine j_aload_n C dX6_variables_27 rfl rfl ?_
      refine j_iconst (v := nI 0) C dX6_variables_28 (by decide) ?_
      refine g_putI C (by assumption) fw_X6_67 (by rfl) rfl (fits_int _) dX6_variables_29 ?_
      refine j_aload_n C dX6_variables_32 rfl rfl ?_
      refine g_getR C (by assumption) fl_X6_15 (by rfl) dX6_variables_33 ?_
      refine j_iconst (v := (0)) C dX6_variables_36 (by decide) ?_
      refine j_csV C sc_X6_71 (c_fill l G rg _ _ _ _ _ so3 (by decide)) ⟨Nat.le_of_ble_eq_true rfl, Nat.le_of_ble_eq_true rfl⟩ rfl rfl (Nat.le_of_ble_eq_true rfl) ⟨Nat.zero_le _, Nat.zero_le _⟩ dX6_variables_37 (fun I_37 L_37 p_37 => ?_)
      obtain ⟨rfl, rfl⟩ := p_37
      refine j_aload_n C dX6_variables_40 rfl rfl ?_
      refine g_getR C (so1) fl_X6_43 (by rfl) dX6_variables_41 ?_
      refine j_iconst (v := nI 0) C dX6_variables_44 (by decide) ?_
      refine g_putI C (po1) fw_X6_77 (by rfl) rfl (rfl) dX6_variables_45 ?_
      refine j_iload_n C dX6_variables_48 rfl rfl ?_
      have hnb : ¬ (x < 1 ∨ ¬ x ≤ 4) := fun q => q.elim h_2 (fun z => z h_7)
      obtain ⟨hx, hx1, hx4⟩ := vr_x h_2 h_7
      refine j_iret C hr dX6_variables_49 ⟨by unfold varsR; rw [if_neg hnb], ?_⟩
      rw [show varsS A x = (x.toNatClampNeg, 0, 0, aV A, fun _ => 0, aE A, aM A, none) from if_neg hnb]
      refine ⟨?_, ?_, ?_, fun f k hf hk => ?_, fun k hk => ?_, ?_, rx0, (fun X hX => by cases hX), fun q => absurd q (show ¬ (0 : Int32) = 1 by decide)⟩
      · rw [up2_ne _ (by omega), va_up_ne _ _ (by omega)]; simp only [up2_at]; simp; exact hx
      · rw [up2_ne _ (by omega), va_up_ne _ _ (by omega)]; simp only [up2_at]; simp
      · rw [up2_ne _ (by omega), va_up_ne _ _ (by omega)]; simp only [up2_at]; simp
      · rw [up2_ne _ (by omega), va_up_ne _ _ (by omega), up2_ne _ (by omega), up2_ne _ (by omega), up2_ne _ (by omega)]; exact rV f k hf hk
      · rw [up2_ne _ (by omega), va_up_self, if_pos hk]
      · rw [up2_at, if_pos rfl, if_pos rfl]; rfl
    · refine j_iconst (v := (-1)) C dX6_variables_10 (by decide) ?_
      exact j_iret C hr dX6_variables_11 (by unfold varsR varsS; first | (rw [if_pos (Or.inl h_2), if_pos (Or.inl h_2)]; exact ⟨rfl, hRC⟩) | (rw [if_pos (Or.inr h_7), if_pos (Or.inr h_7)]; exact ⟨rfl, hRC⟩))

set_option maxHeartbeats 4000000 in
set_option maxRecDepth 20000 in
theorem c_X6_form (l : Launch) (G : GT) (rg : RgT) (I : II) (L : LL) (A : AS) (hss : isSS rg) (hRC : RC A I L) (hok : aok A) : CtI l yX6_form cX6_form 1 (some FieldType.int) 8 G rg I L [.ref (gB G + 0)] (fun r I1 L1 => r = formR A ∧ RC (formS A) I1 L1) := by
  refine ctI_of [some (.ref (gB G + 0))] rfl (Nat.le_of_ble_eq_true rfl) (by decide) ?_
  intro p e s m args below meth c C hr
  obtain ⟨so1, so2, so3, so4, so5, so6, so7, so8, so9, so10, so11, so12⟩ := id hss
  obtain ⟨rN, rF, rP, rV, rT, rX, rx0, rXv, rE⟩ := id hRC
  obtain ⟨kN, kN4, kF, kT, kT0, kP⟩ := id hok
  refine j_aload_n C dX6_form_0 rfl rfl ?_
  refine g_getI C (by assumption) fl_X6_64 (by rfl) dX6_form_1 ?_
  refine t_i rF ?_
  refine j_bipush (v := nI 12) C dX6_form_4 (by decide) ?_
  first | refine n_icmp_lt (tgt := 12) C (by omega) (by omega) dX6_form_6 (by decide) (fun h_6 => ?_) (fun h_6 => ?_) | refine j_icmp_lt (tgt := 12) C dX6_form_6 (by decide) (fun h_6 => ?_) (fun h_6 => ?_)
  · refine j_aload_n C dX6_form_12 rfl rfl ?_
    refine g_getR C (by assumption) fl_X6_11 (by rfl) dX6_form_13 ?_
    refine j_aload_n C dX6_form_16 rfl rfl ?_
    refine g_getI C (by assumption) fl_X6_64 (by rfl) dX6_form_17 ?_
    refine t_i rF ?_
    refine g_aald5 C (so2) (by omega) (by decide) (by rfl) (by omega) dX6_form_20 ?_
    have hfm := so12 (aF A) (by omega)
    refine g_cvV C vc_X6_81 (c_X1_clear l G rg _ _ _ hfm) ⟨Nat.le_of_ble_eq_true rfl, Nat.le_of_ble_eq_true rfl⟩ (hfm.1) rfl rfl (Nat.le_of_ble_eq_true rfl) ⟨Nat.zero_le _, Nat.zero_le _⟩ dX6_form_21 (fun I_21 L_21 p_21 => ?_)
    obtain ⟨rfl, rfl⟩ := p_21
    refine j_aload_n C dX6_form_24 rfl rfl ?_
    refine j_dup C dX6_form_25 rfl ?_
    refine g_getI C (by assumption) fl_X6_64 (by rfl) dX6_form_26 ?_
    refine t_i (y := nI (aF A)) (by rw [va_up_ne _ _ (by omega)]; exact rF) ?_
    refine j_iconst (v := nI 1) C dX6_form_29 (by decide) ?_
    first | refine n_iadd C dX6_form_30 ?_ | refine j_iadd C dX6_form_30 ?_
    refine g_putI C (by assumption) fw_X6_64 (by rfl) rfl (fits_int _) dX6_form_31 ?_
    refine j_aload_n C dX6_form_34 rfl rfl ?_
    refine g_getI C (by assumption) fl_X6_64 (by rfl) dX6_form_35 ?_
    refine t_i (y := nI (aF A + 1)) (by rw [up2_at, if_pos rfl, if_pos rfl]) ?_
    refine j_iconst (v := nI 1) C dX6_form_38 (by decide) ?_
    first | refine n_isub C (by omega) dX6_form_39 ?_ | refine j_isub C dX6_form_39 ?_
    have hlt : aF A < 12 := h_6
    refine j_iret C hr dX6_form_40 ⟨by unfold formR; rw [if_pos hlt]; rfl, ?_⟩
    rw [show formS A = (aN A, aF A + 1, aP A, va_up (aV A) (aF A) (fun j => if j < 25 then 0 else aV A (aF A) j), A.2.2.2.2) from if_pos hlt]
    refine ⟨?_, ?_, ?_, fun f k hf hk => ?_, fun k hk => ?_, ?_, rx0, rXv, fun e => ⟨(rE e).1.cong (by omega) ?_ ?_ (fun _ _ => rfl) ?_ (fun s hs => ?_) (fun _ _ _ => rfl), (rE e).2⟩⟩
    · rw [up2_at, if_pos rfl, if_neg (by decide), va_up_ne _ _ (by omega)]; exact rN
    · rw [up2_at, if_pos rfl, if_pos rfl]
    · rw [up2_at, if_pos rfl, if_neg (by decide), va_up_ne _ _ (by omega)]; exact rP
    · rw [up2_ne _ (by omega)]; show va_up I (202 + 2 * aF A + 1) _ _ k = va_up (aV A) (aF A) _ f k; unfold va_up; by_cases e : f = aF A
      · subst e; rw [if_pos (by omega), if_pos rfl]; split; rfl; omega
      · rw [if_neg (by omega), if_neg e]; exact rV f k hf hk
    · rw [up2_ne _ (by omega), va_up_ne _ _ (by omega)]; exact rT k hk
    · rw [up2_ne _ (by omega), va_up_ne _ _ (by omega)]; exact rX
    · rw [up2_ne _ (by omega), va_up_ne _ _ (by omega)]
    · rw [up2_ne _ (by omega), va_up_ne _ _ (by omega)]
    · rw [up2_ne _ (by omega), va_up_ne _ _ (by omega)]
    · rw [up2_ne _ (by omega), va_up_ne _ _ (by omega)]
  · refine j_bipush (v := (-3)) C dX6_form_9 (by decide) ?_
    exact j_iret C hr dX6_form_11 (by unfold formR formS; rw [if_neg (by omega), if_neg (by omega)]; exact ⟨rfl, hRC⟩)

theorem tb1 {A : AS} {f i j v : Int32} (h : okF f (aF A) = false) : ¬ termOk A f i j v := fun q => by rw [q.1] at h; cases h
theorem tb2 {A : AS} {f i j v : Int32} (h : okI i (aN A) = false) : ¬ termOk A f i j v := fun q => by rw [q.2.1] at h; cases h
theorem tb3 {A : AS} {f i j v : Int32} (h : okI j (aN A) = false) : ¬ termOk A f i j v := fun q => by rw [q.2.2.1] at h; cases h
theorem tb4 {A : AS} {f i j v : Int32} (h : v < -1000000) : ¬ termOk A f i j v := fun q => q.2.2.2.1 h
theorem tb5 {A : AS} {f i j v : Int32} (h : ¬ v ≤ 1000000) : ¬ termOk A f i j v := fun q => h q.2.2.2.2
set_option maxHeartbeats 4000000 in
set_option maxRecDepth 20000 in
theorem c_X6_term (l : Launch) (G : GT) (rg : RgT) (I : II) (L : LL) (A : AS) (f i j v : Int32) (hss : isSS rg) (hRC : RC A I L) (hok : aok A) : CtI l yX6_term cX6_term 5 (some FieldType.int) 8 G rg I L [.ref (gB G + 0), .int f, .int i, .int j, .int v] (fun r I1 L1 => r = termR A f i j v ∧ RC (termS A f i j v) I1 L1) := by
  refine ctI_of [some (.ref (gB G + 0)), some (.int f), some (.int i), some (.int j), some (.int v)] rfl (Nat.le_of_ble_eq_true rfl) (by decide) ?_
  intro p e s m args below meth c C hr
  obtain ⟨so1, so2, so3, so4, so5, so6, so7, so8, so9, so10, so11, so12⟩ := id hss
  obtain ⟨rN, rF, rP, rV, rT, rX, rx0, rXv, rE⟩ := id hRC
  obtain ⟨kN, kN4, kF, kT, kT0, kP⟩ := id hok
  refine j_aload_n C dX6_term_0 rfl rfl ?_
  refine j_iload_n C dX6_term_1 rfl rfl ?_
  refine g_cvI C vc_X6_84 (c_X6_isForm l G rg _ _ A _ hss hRC hok) ⟨Nat.le_of_ble_eq_true rfl, Nat.le_of_ble_eq_true rfl⟩ (by assumption) rfl rfl (Nat.le_of_ble_eq_true rfl) ⟨Nat.zero_le _, Nat.zero_le _⟩ dX6_term_2 (fun r_2 I_2 L_2 p_2 => ?_)
  obtain ⟨rfl, rfl, rfl⟩ := p_2
  first | refine n_if_eq (tgt := 24) C dX6_term_5 (by decide) (fun h_5 => ?_) (fun h_5 => ?_) | refine j_if_eq (tgt := 24) C dX6_term_5 (by decide) (fun h_5 => ?_) (fun h_5 => ?_)
  · refine j_ldc C kc_X6_91 dX6_term_24 ?_
    exact j_iret C hr dX6_term_26 (by have hb : ¬ termOk A f i j v := (by first | exact tb1 h_5 | exact tb2 h_13 | exact tb3 h_21); unfold termR termS; rw [cif_f hb, cif_f hb]; exact ⟨rfl, hRC⟩)
  · refine j_aload_n C dX6_term_8 rfl rfl ?_
    refine j_iload_n C dX6_term_9 rfl rfl ?_
    refine g_cvI C vc_X6_88 (c_X6_isIndex l G rg _ _ A _ hss hRC hok) ⟨Nat.le_of_ble_eq_true rfl, Nat.le_of_ble_eq_true rfl⟩ (by assumption) rfl rfl (Nat.le_of_ble_eq_true rfl) ⟨Nat.zero_le _, Nat.zero_le _⟩ dX6_term_10 (fun r_10 I_10 L_10 p_10 => ?_)
    obtain ⟨rfl, rfl, rfl⟩ := p_10
    first | refine n_if_eq (tgt := 24) C dX6_term_13 (by decide) (fun h_13 => ?_) (fun h_13 => ?_) | refine j_if_eq (tgt := 24) C dX6_term_13 (by decide) (fun h_13 => ?_) (fun h_13 => ?_)
    · refine j_ldc C kc_X6_91 dX6_term_24 ?_
      exact j_iret C hr dX6_term_26 (by have hb : ¬ termOk A f i j v := (by first | exact tb1 h_5 | exact tb2 h_13 | exact tb3 h_21); unfold termR termS; rw [cif_f hb, cif_f hb]; exact ⟨rfl, hRC⟩)
    · refine j_aload_n C dX6_term_16 rfl rfl ?_
      refine j_iload_n C dX6_term_17 rfl rfl ?_
      refine g_cvI C vc_X6_88 (c_X6_isIndex l G rg _ _ A _ hss hRC hok) ⟨Nat.le_of_ble_eq_true rfl, Nat.le_of_ble_eq_true rfl⟩ (by assumption) rfl rfl (Nat.le_of_ble_eq_true rfl) ⟨Nat.zero_le _, Nat.zero_le _⟩ dX6_term_18 (fun r_18 I_18 L_18 p_18 => ?_)
      obtain ⟨rfl, rfl, rfl⟩ := p_18
      first | refine n_if_ne (tgt := 27) C dX6_term_21 (by decide) (fun h_21 => ?_) (fun h_21 => ?_) | refine j_if_ne (tgt := 27) C dX6_term_21 (by decide) (fun h_21 => ?_) (fun h_21 => ?_)
      · refine j_iload C dX6_term_27 rfl ?_
        refine j_ldc C kc_X6_92 dX6_term_29 ?_
        refine j_icmp_lt (tgt := 41) C dX6_term_31 (by decide) (fun h_31 => ?_) (fun h_31 => ?_)
        · refine j_ldc C kc_X6_91 dX6_term_41 ?_
          exact j_iret C hr dX6_term_43 (by have hb : ¬ termOk A f i j v := (by first | exact tb4 h_31 | exact tb5 h_38); unfold termR termS; rw [cif_f hb, cif_f hb]; exact ⟨rfl, hRC⟩)
        · refine j_iload C dX6_term_34 rfl ?_
          refine j_ldc C kc_X6_93 dX6_term_36 ?_
          refine j_icmp_le (tgt := 44) C dX6_term_38 (by decide) (fun h_38 => ?_) (fun h_38 => ?_)
          · have hb : termOk A f i j v := ⟨h_5, h_13, h_21, h_31, h_38⟩
            obtain ⟨hf, hfn⟩ := okF_t h_5
            obtain ⟨hi, hin⟩ := okI_t h_13
            obtain ⟨hj, hjn⟩ := okI_t h_21
            have hfm := so12 f.toNatClampNeg (by omega)
            refine j_aload_n C dX6_term_44 rfl rfl ?_
            refine g_getR C (by assumption) fl_X6_11 (by rfl) dX6_term_45 ?_
            refine j_iload_n C dX6_term_48 rfl rfl ?_
            refine t_i hf ?_
            refine g_aald5 C (so2) (by omega) (by decide) (by rfl) (by omega) dX6_term_49 ?_
            refine j_iload_n C dX6_term_50 rfl rfl ?_
            refine t_i hi ?_
            refine j_iload_n C dX6_term_51 rfl rfl ?_
            refine t_i hj ?_
            refine j_iload C dX6_term_52 rfl ?_
            refine g_cvI C vc_X6_94 (c_X1_replace l G rg _ _ _ _ _ _ hfm (by omega) (by omega)) ⟨Nat.le_of_ble_eq_true rfl, Nat.le_of_ble_eq_true rfl⟩ (hfm.1) rfl rfl (Nat.le_of_ble_eq_true rfl) ⟨Nat.zero_le _, Nat.zero_le _⟩ dX6_term_54 (fun r_54 I_54 L_54 p_54 => ?_)
            obtain ⟨rfl, rfl, rfl⟩ := p_54
            have hix := ix_lt (show i.toNatClampNeg < 5 by omega) (show j.toNatClampNeg < 5 by omega)
            refine j_iret C hr dX6_term_57 ⟨by unfold termR; rw [cif_t hb, show 202 + 2 * f.toNatClampNeg + 1 = 203 + 2 * f.toNatClampNeg by omega]; exact rV _ _ (by omega) hix, ?_⟩
            rw [show termS A f i j v = _ from cif_t hb]
            refine ⟨?_, ?_, ?_, fun g k hg hk => ?_, fun k hk => ?_, ?_, rx0, rXv, fun e => ⟨(rE e).1.cong (by omega) ?_ ?_ (fun _ _ => rfl) ?_ (fun s hs => ?_) (fun _ _ _ => rfl), (rE e).2⟩⟩
            · rw [up2_ne _ (by omega)]; exact rN
            · rw [up2_ne _ (by omega)]; exact rF
            · rw [up2_ne _ (by omega)]; exact rP
            · show up2 I (202 + 2 * f.toNatClampNeg + 1) _ v _ k = up2 (aV A) f.toNatClampNeg _ v g k; rw [up2_at, up2_at]; by_cases e : g = f.toNatClampNeg
              · subst e; rw [if_pos (by omega), if_pos rfl]; split; rfl; exact rV _ _ hg hk
              · rw [if_neg (by omega), if_neg e]; exact rV g k hg hk
            · rw [up2_ne _ (by omega)]; exact rT k hk
            · rw [up2_ne _ (by omega)]; exact rX
            · rw [up2_ne _ (by omega)]
            · rw [up2_ne _ (by omega)]
            · rw [up2_ne _ (by omega)]
            · rw [up2_ne _ (by omega)]
          · refine j_ldc C kc_X6_91 dX6_term_41 ?_
            exact j_iret C hr dX6_term_43 (by have hb : ¬ termOk A f i j v := (by first | exact tb4 h_31 | exact tb5 h_38); unfold termR termS; rw [cif_f hb, cif_f hb]; exact ⟨rfl, hRC⟩)
      · refine j_ldc C kc_X6_91 dX6_term_24 ?_
        exact j_iret C hr dX6_term_26 (by have hb : ¬ termOk A f i j v := (by first | exact tb1 h_5 | exact tb2 h_13 | exact tb3 h_21); unfold termR termS; rw [cif_f hb, cif_f hb]; exact ⟨rfl, hRC⟩)

set_option maxHeartbeats 4000000 in
set_option maxRecDepth 20000 in
theorem c_X6_plain (l : Launch) (G : GT) (rg : RgT) (I : II) (L : LL) (A : AS) (x : Int32) (hss : isSS rg) (hRC : RC A I L) (hok : aok A) : CtI l yX6_plain cX6_plain 2 (some FieldType.int) 8 G rg I L [.ref (gB G + 0), .int x] (fun r I1 L1 => r = plainR A x ∧ RC A I1 L1) := by
  refine ctI_of [some (.ref (gB G + 0)), some (.int x)] rfl (Nat.le_of_ble_eq_true rfl) (by decide) ?_
  intro p e s m args below meth c C hr
  obtain ⟨so1, so2, so3, so4, so5, so6, so7, so8, so9, so10, so11, so12⟩ := id hss
  obtain ⟨rN, rF, rP, rV, rT, rX, rx0, rXv, rE⟩ := id hRC
  obtain ⟨kN, kN4, kF, kT, kT0, kP⟩ := id hok
  refine j_aload_n C dX6_plain_0 rfl rfl ?_
  refine j_iload_n C dX6_plain_1 rfl rfl ?_
  refine g_cvI C vc_X6_84 (c_X6_isForm l G rg _ _ A _ hss hRC hok) ⟨Nat.le_of_ble_eq_true rfl, Nat.le_of_ble_eq_true rfl⟩ (by assumption) rfl rfl (Nat.le_of_ble_eq_true rfl) ⟨Nat.zero_le _, Nat.zero_le _⟩ dX6_plain_2 (fun r_2 I_2 L_2 p_2 => ?_)
  obtain ⟨rfl, rfl, rfl⟩ := p_2
  first | refine n_if_ne (tgt := 10) C dX6_plain_5 (by decide) (fun h_5 => ?_) (fun h_5 => ?_) | refine j_if_ne (tgt := 10) C dX6_plain_5 (by decide) (fun h_5 => ?_) (fun h_5 => ?_)
  · obtain ⟨hx, hxn⟩ := okF_t h_5
    have hfm := so12 x.toNatClampNeg (by omega)
    refine j_aload_n C dX6_plain_10 rfl rfl ?_
    refine g_getR C (by assumption) fl_X6_37 (by rfl) dX6_plain_11 ?_
    refine j_aload_n C dX6_plain_14 rfl rfl ?_
    refine g_getR C (by assumption) fl_X6_11 (by rfl) dX6_plain_15 ?_
    refine j_iload_n C dX6_plain_18 rfl rfl ?_
    refine t_i hx ?_
    refine g_aald5 C (so2) (by omega) (by decide) (by rfl) (by omega) dX6_plain_19 ?_
    refine j_aload_n C dX6_plain_20 rfl rfl ?_
    refine g_getI C (by assumption) fl_X6_60 (by rfl) dX6_plain_21 ?_
    refine t_i rN ?_
    refine g_cvI C vc_X6_108 (c_X0_runWithoutLooking l G rg _ _ 111 _ (aN A) (mxF A x.toNatClampNeg) so7 hfm (by omega) (fun i j hi hj => by show hv _ i j = hv _ i j; rw [show 202 + 2 * x.toNatClampNeg + 1 = 203 + 2 * x.toNatClampNeg by omega, rV _ _ (by omega) (ix_lt (by omega) (by omega))])) ⟨Nat.le_of_ble_eq_true rfl, Nat.le_of_ble_eq_true rfl⟩ (so7.1) rfl rfl (Nat.le_of_ble_eq_true rfl) ⟨Nat.zero_le _, Nat.zero_le _⟩ dX6_plain_24 (fun r_24 I_24 L_24 p_24 => ?_)
    obtain ⟨f1, f2, rfl⟩ := p_24
    exact j_iret C hr dX6_plain_27 (⟨by unfold plainR; rw [if_pos h_5], hRC.cong hok (f1.at (by omega)) (fun f hf => f1.at (by omega)) (f1.at (by omega)) (f1.at (by omega)) (fun q q1 q2 => f1.at (by omega)) (fun q q1 q2 => f2.at (by omega)) (fun q q1 q2 => f2.at (by omega)) (fun q q1 q2 => f2.at (by omega))⟩)
  · refine j_iconst (v := (-1)) C dX6_plain_8 (by decide) ?_
    exact j_iret C hr dX6_plain_9 (⟨by unfold plainR; rw [h_5]; rfl, hRC⟩)

theorem nfb {b : Bool} {v : Int64} (h : v = 0) : ¬ (b = true ∧ ¬ v = 0) := fun q => q.2 h
theorem nfc {b : Bool} {v : Int64} {c : Prop} (h : v = 0) : ¬ (b = true ∧ ¬ v = 0 ∧ c) := fun q => q.2.1 h
theorem pl_bad {u v : Int64} (h : fPut (decO u) (decO v) = none) (h0 : ¬ v = 0) : u = LEA ∨ v = LEA := by
  by_cases hu : u = LEA
  · exact Or.inl hu
  · by_cases hv : v = LEA
    · exact Or.inr hv
    · rw [fPut_4 hu hv h0] at h; cases h
theorem pl_ok {u v : Int64} {z : Fr} (h : fPut (decO u) (decO v) = some z) : ¬ u = LEA ∧ ¬ v = LEA ∧ z = red u v := by
  by_cases hu : u = LEA
  · rw [fPut_1 hu] at h; cases h
  · by_cases hv : v = LEA
    · rw [fPut_2 hv] at h; cases h
    · by_cases h0 : v = 0
      · rw [fPut_3 h0] at h; cases h
      · rw [fPut_4 hu hv h0] at h; cases h; exact ⟨hu, hv, rfl⟩
theorem RelC_plant {n o : Nat} {I : II} {L : LL} {E : ES} {s : Nat} {z : Fr} (h : RelC n o I L E) (hs : s < eS E) (hn : n < 5) : RelC n o I (setF L (o + 39 + 8 * s + 1) z) (E.1, E.2.1, E.2.2.1, E.2.2.2.1, va_up (eW E) s z, E.2.2.2.2.2) := by
  obtain ⟨a1, a2, a3, a4, a5, a6⟩ := h
  refine ⟨a1, a2, a3, fun i j hi hj => ?_, a5, fun q hq => ?_⟩
  · rw [fr_setF, if_neg (by omega)]; exact a4 i j hi hj
  · have hq' : q < eS E := hq
    obtain ⟨b1, b2, b3, b4⟩ := a6 q hq
    refine ⟨b1, b2, ?_, fun j hj => ?_⟩
    · show fr (setF L (o + 39 + 8 * s + 1) z) (o + 40 + 8 * q) = va_up (eW E) s z q
      rw [fr_setF]
      unfold va_up
      by_cases e : q = s
      · rw [if_pos (by omega), if_pos e]
      · rw [if_neg (by omega), if_neg e]; exact b3
    · rw [fr_setF, if_neg (by omega)]; exact b4 j hj
set_option maxHeartbeats 4000000 in
set_option maxRecDepth 20000 in
theorem c_X6_plant (l : Launch) (G : GT) (rg : RgT) (I : II) (L : LL) (A : AS) (x : Int32) (u v : Int64) (hss : isSS rg) (hRC : RC A I L) (hok : aok A) : CtI l yX6_plant cX6_plant 6 (some FieldType.int) 8 G rg I L [.ref (gB G + 0), .int x, .long u, .long v] (fun r I1 L1 => r = plantR A x u v ∧ RC (plantS A x u v) I1 L1) := by
  refine ctI_of [some (.ref (gB G + 0)), some (.int x), some (.long u), none, some (.long v), none] rfl (Nat.le_of_ble_eq_true rfl) (by decide) ?_
  intro p e s m args below meth c C hr
  obtain ⟨so1, so2, so3, so4, so5, so6, so7, so8, so9, so10, so11, so12⟩ := id hss
  obtain ⟨rN, rF, rP, rV, rT, rX, rx0, rXv, rE⟩ := id hRC
  obtain ⟨kN, kN4, kF, kT, kT0, kP⟩ := id hok
  refine j_aload_n C dX6_plant_0 rfl rfl ?_
  refine j_iload_n C dX6_plant_1 rfl rfl ?_
  refine g_cvI C vc_X6_148 (c_X6_isSquare l G rg _ _ A _ hss hRC hok) ⟨Nat.le_of_ble_eq_true rfl, Nat.le_of_ble_eq_true rfl⟩ (by assumption) rfl rfl (Nat.le_of_ble_eq_true rfl) ⟨Nat.zero_le _, Nat.zero_le _⟩ dX6_plant_2 (fun r_2 I_2 L_2 p_2 => ?_)
  obtain ⟨rfl, rfl, rfl⟩ := p_2
  first | refine n_if_eq (tgt := 15) C dX6_plant_5 (by decide) (fun h_5 => ?_) (fun h_5 => ?_) | refine j_if_eq (tgt := 15) C dX6_plant_5 (by decide) (fun h_5 => ?_) (fun h_5 => ?_)
  · refine j_iconst (v := (-1)) C dX6_plant_15 (by decide) ?_
    exact j_iret C hr dX6_plant_16 (by unfold plantR plantS; first | (rw [if_neg (bff h_5), if_neg (bff h_5)]; exact ⟨rfl, hRC⟩) | (rw [if_neg (nfb h_12), if_neg (nfc h_12)]; exact ⟨rfl, hRC⟩))
  · refine j_lload C dX6_plant_8 rfl ?_
    refine j_lconst (v := 0) C dX6_plant_10 (by decide) ?_
    refine j_lc_ne (tgt := 17) C dX6_plant_11 dX6_plant_12 (by decide) (fun h_12 => ?_) (fun h_12 => ?_)
    · obtain ⟨hx, h01, hsl, hs5⟩ := okS_t hok h_5
      obtain ⟨hRel, hM1⟩ := rE h01
      obtain ⟨hN, hS, hS5, hM, hLf, hSq⟩ := id hRel
      obtain ⟨hp1, hp2, hp3, hp4⟩ := hSq _ hsl
      obtain ⟨eo1, eo2, eo3, eo4, eo5, eo6, eo7, eo8, eo9⟩ := id so6
      have hsqr := eo9 x.toNatClampNeg (by omega)
      refine j_aload_n C dX6_plant_17 rfl rfl ?_
      refine g_getR C (by assumption) fl_X6_33 (by rfl) dX6_plant_18 ?_
      refine g_getR C (eo1) fl_X6_154 (by rfl) dX6_plant_21 ?_
      refine j_iload_n C dX6_plant_24 rfl rfl ?_
      refine t_i hx ?_
      refine g_aald4 C (eo4) (by omega) (by decide) (by rfl) (by omega) dX6_plant_25 ?_
      refine g_getR C (hsqr.1) fl_X6_158 (by rfl) dX6_plant_26 ?_
      refine j_lload_n C dX6_plant_29 rfl rfl ?_
      refine j_lload C dX6_plant_30 rfl ?_
      refine g_cvI C vc_X6_184 (c_X2_put l G rg _ _ _ _ _ hsqr.2.1) ⟨Nat.le_of_ble_eq_true rfl, Nat.le_of_ble_eq_true rfl⟩ (hsqr.2.1) rfl rfl (Nat.le_of_ble_eq_true rfl) ⟨Nat.zero_le _, Nat.zero_le _⟩ dX6_plant_32 (fun r_32 I_32 L_32 p_32 => ?_)
      obtain ⟨rfl, ⟨z_32, hz_32, rfl, rfl⟩ | ⟨hz_32, rfl, rfl⟩⟩ := p_32
      · refine j_if_eq (tgt := 42) C dX6_plant_35 (by decide) (fun h_35 => ?_) (fun h_35 => ?_)
        · exact absurd h_35 (by decide)
        · refine j_iconst (v := nI 0) C dX6_plant_38 (by decide) ?_
          refine j_goto (tgt := 44) C dX6_plant_39 (by decide) ?_
          obtain ⟨hu, hv, hz⟩ := pl_ok hz_32
          subst hz
          have hb : okS A x = true ∧ ¬ v = 0 ∧ ¬ u = LEA ∧ ¬ v = LEA := ⟨h_5, h_12, hu, hv⟩
          refine j_iret C hr dX6_plant_44 ⟨by unfold plantR; rw [if_pos ⟨h_5, h_12⟩, if_neg (fun q => q.elim hu hv)]; rfl, ?_⟩
          rw [show plantS A x u v = _ from if_pos hb]
          refine ⟨rN, rF, rP, rV, rT, rX, ?_, fun X hX k k1 k2 => ?_, fun e => ⟨RelC_plant hRel hsl (show aN A < 5 by omega), fun i j (hi : i ≤ aN A) (hj : j ≤ aN A) => ?_⟩⟩
          · rw [fr_setF, if_neg (by omega)]; exact rx0
          · rw [fr_setF, if_neg (by omega)]; exact rXv X hX k k1 k2
          · rw [fr_setF, if_neg (by omega)]; exact hM1 i j hi hj
      · refine j_if_eq (tgt := 42) C dX6_plant_35 (by decide) (fun h_35 => ?_) (fun h_35 => ?_)
        · refine j_bipush (v := (-30)) C dX6_plant_42 (by decide) ?_
          exact j_iret C hr dX6_plant_44 (by have hb : u = LEA ∨ v = LEA := pl_bad hz_32 h_12; unfold plantR plantS; rw [if_pos ⟨h_5, h_12⟩, if_pos hb, if_neg (fun q => hb.elim q.2.2.1 q.2.2.2)]; exact ⟨rfl, hRC⟩)
        · exact absurd rfl h_35
    · refine j_iconst (v := (-1)) C dX6_plant_15 (by decide) ?_
      exact j_iret C hr dX6_plant_16 (by unfold plantR plantS; first | (rw [if_neg (bff h_5), if_neg (bff h_5)]; exact ⟨rfl, hRC⟩) | (rw [if_neg (nfb h_12), if_neg (nfc h_12)]; exact ⟨rfl, hRC⟩))
