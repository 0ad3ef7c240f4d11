/-! ===== the point ===== -/
noncomputable def quoX (n : Nat) (V : Nat → Fr) : Option (Nat → Fr) := cif (∀ k, 1 ≤ k → k ≤ n → fDiv (V k) (V 0) ≠ none) (some (fun k => if k = 0 then (1, 1) else (fDiv (V k) (V 0)).getD (0, 1))) none
noncomputable def mulX (n e : Nat) (V : Nat → Fr) : Option (Nat → Fr) := cif (∀ k, 1 ≤ k → k ≤ n → fMul (tw e, 1) (V k) ≠ none) (some (fun k => if k = 0 then (1, 1) else (fMul (tw e, 1) (V k)).getD (0, 1))) none
/-- a form's term at a point -/
def tmO (f : Nat → Int32) (X : Nat → Fr) (i j : Nat) : Option Fr := (fMul ((f (ix i j)).toInt64, 1) (X i)).bind (fun b => fMul b (X j))
def woJ (f : Nat → Int32) (X : Nat → Fr) (n i : Nat) : Nat → Fr → Option Fr
  | 0, a => some a
  | k + 1, a => ((tmO f X i (n - k)).bind (fAdd a)).bind (woJ f X n i k)
def woI (f : Nat → Int32) (X : Nat → Fr) (n : Nat) : Nat → Fr → Option Fr
  | 0, a => some a
  | k + 1, a => (woJ f X n (n - k) (k + 1) a).bind (woI f X n k)
noncomputable def ptE (n : Nat) (f : Nat → Int32) (V : Nat → Fr) : Nat → Nat → Option (Nat → Fr)
  | 0, _ => none
  | q + 1, e => (mulX n e V).bind (fun X => (woI f X n (n + 1) (0, 1)).bind (fun w => if w.1 < 0 then some X else ptE n f V q (e + 1)))
noncomputable def ptO (n : Nat) (f : Nat → Int32) (V : Nat → Fr) : Option (Nat → Fr) := if (V 0).1 = 0 then ptE n f V 41 0 else quoX n V
/-- the cells of the point at o hold X -/
def PR (o n : Nat) (L : LL) (X : Nat → Fr) : Prop := ∀ k, 1 ≤ k → k ≤ n → fr L (o + 2 + k) = X k
theorem woJ_s {f : Nat → Int32} {X : Nat → Fr} {n i j : Nat} {a t y : Fr} (hj : j ≤ n) (h1 : tmO f X i j = some t) (h2 : fAdd a t = some y) : woJ f X n i (n + 1 - j) a = woJ f X n i (n + 1 - (j + 1)) y := by
  rw [show n + 1 - j = (n - j) + 1 by omega, woJ, show n - (n - j) = j by omega, h1]
  show ((fAdd a t).bind _) = _
  rw [h2, show n + 1 - (j + 1) = n - j by omega]; rfl
theorem woJ_n1 {f : Nat → Int32} {X : Nat → Fr} {n i j : Nat} {a : Fr} (hj : j ≤ n) (h1 : tmO f X i j = none) : woJ f X n i (n + 1 - j) a = none := by
  rw [show n + 1 - j = (n - j) + 1 by omega, woJ, show n - (n - j) = j by omega, h1]; rfl
theorem woJ_n2 {f : Nat → Int32} {X : Nat → Fr} {n i j : Nat} {a t : Fr} (hj : j ≤ n) (h1 : tmO f X i j = some t) (h2 : fAdd a t = none) : woJ f X n i (n + 1 - j) a = none := by
  rw [show n + 1 - j = (n - j) + 1 by omega, woJ, show n - (n - j) = j by omega, h1]
  show ((fAdd a t).bind _) = _
  rw [h2]; rfl
theorem woI_s {f : Nat → Int32} {X : Nat → Fr} {n i : Nat} {a y : Fr} (hi : i ≤ n) (h : woJ f X n i (n + 1 - i) a = some y) : woI f X n (n + 1 - i) a = woI f X n (n + 1 - (i + 1)) y := by
  rw [show n + 1 - i = (n - i) + 1 by omega] at h ⊢
  rw [woI, show n - (n - i) = i by omega, h, show n + 1 - (i + 1) = n - i by omega]; rfl
theorem woI_n {f : Nat → Int32} {X : Nat → Fr} {n i : Nat} {a : Fr} (hi : i ≤ n) (h : woJ f X n i (n + 1 - i) a = none) : woI f X n (n + 1 - i) a = none := by
  rw [show n + 1 - i = (n - i) + 1 by omega] at h ⊢
  rw [woI, show n - (n - i) = i by omega, h]; rfl
theorem lsh_tw (e : Nat) : (1 : Int64) <<< ((nI e).toInt64 &&& 63) = tw e := rfl

set_option maxHeartbeats 4000000 in
set_option maxRecDepth 20000 in
theorem c_X4_byQuotients (l : Launch) (G : GT) (rg : RgT) (I : II) (L : LL) (o wa wb n : Nat) (V : Nat → Fr) (ho : isPt rg o) (hv : Rr rg wa 3 5 (fun j => wb + j)) (hvF : ∀ j, j < 5 → isF rg (wb + j)) (hwb : 0 < wb) (hwd : wb + 5 ≤ o ∨ o + 9 ≤ wb) (hn : n < 5) (hV : ∀ j, j < 5 → fr L (wb + j) = V j) : CtI l yX4_byQuotients cX4_byQuotients 4 (some FieldType.boolean) 4 G rg I L [.ref (gB G + o), .ref (gB G + wa), .int (nI n)] (fun r I1 L1 => I = I1 ∧ Fm (o + 3) (o + 7) L L1 ∧ ((r = b2i true ∧ ∃ X, quoX n V = some X ∧ PR o n L1 X) ∨ (r = b2i false ∧ quoX n V = none))) := by
  refine ctI_of [some (.ref (gB G + o)), some (.ref (gB G + wa)), some (.int (nI n)), none] rfl (Nat.le_of_ble_eq_true rfl) (by decide) ?_
  intro p e s m args below meth c C hr
  obtain ⟨ho1, ho2, ho3, ho4, ho5⟩ := id ho
  have lp : ∀ (fuel : Nat) (k : Nat) (L1 : LL), n + 1 < fuel + k → k ≤ n + 1 → 1 ≤ k → Fm (o + 3) (o + 7) L L1 → (∀ j, 1 ≤ j → j < k → fDiv (V j) (V 0) = some (fr L1 (o + 2 + j))) → J p l e (rmD 4) s m args below meth c (MQ below (QI G rg (fun r I1 L1 => I = I1 ∧ Fm (o + 3) (o + 7) L L1 ∧ ((r = b2i true ∧ ∃ X, quoX n V = some X ∧ PR o n L1 X) ∨ (r = b2i false ∧ quoX n V = none)))) args s 0 0 (rg_A G rg)) 4 G rg 0 0 I L1 2 [some (.ref (gB G + o)), some (.ref (gB G + wa)), some (.int (nI n)), some (.int (nI k))] [] := by
    intro fuel
    induction fuel with
    | zero => intro k L1 h1 h2 h3 hG1 hC; exfalso; omega
    | succ fuel ih_lp =>
      intro k L1 h1 h2 h3 hG1 hC
      refine j_iload_n C dX4_byQuotients_2 rfl rfl ?_
      refine j_iload_n C dX4_byQuotients_3 rfl rfl ?_
      first | refine n_icmp_gt (tgt := 33) C (by omega) (by omega) dX4_byQuotients_4 (by decide) (fun h_4 => ?_) (fun h_4 => ?_) | refine j_icmp_gt (tgt := 33) C dX4_byQuotients_4 (by decide) (fun h_4 => ?_) (fun h_4 => ?_)
      · refine j_iconst (v := nI 1) C dX4_byQuotients_33 (by decide) ?_
        exact j_zret C hr (by first | rfl | exact b2i_n _ rfl) dX4_byQuotients_34 (⟨rfl, hG1, Or.inl ⟨rfl, _, cif_t (fun j h1 h2 q => by rw [hC j h1 (by omega)] at q; cases q), fun j h1 h2 => by show _ = if j = 0 then (1, 1) else (fDiv (V j) (V 0)).getD (0, 1); rw [if_neg (by omega), hC j h1 (by omega)]; rfl⟩⟩)
      · refine j_aload_n C dX4_byQuotients_7 rfl rfl ?_
        refine g_getR C (by assumption) fl_X4_13 (by rfl) dX4_byQuotients_8 ?_
        refine j_iload_n C dX4_byQuotients_11 rfl rfl ?_
        refine g_aald3 C (ho2) (by omega) (by decide) (by rfl) (by omega) dX4_byQuotients_12 ?_
        refine j_aload_n C dX4_byQuotients_13 rfl rfl ?_
        refine j_iload_n C dX4_byQuotients_14 rfl rfl ?_
        refine g_aald3 C (hv) (by omega) (by decide) (by rfl) (by omega) dX4_byQuotients_15 ?_
        refine j_aload_n C dX4_byQuotients_16 rfl rfl ?_
        refine j_iconst (v := nI 0) C dX4_byQuotients_17 (by decide) ?_
        refine g_aald3 C (hv) (by omega) (by decide) (by rfl) (by omega) dX4_byQuotients_18 ?_
        have hFx : isF rg (o + 2 + k) := ho3 k (by omega)
        have hFa := hvF k (by omega)
        have hFb := hvF 0 (by omega)
        refine g_cvI C vc_X4_53 (c_X2_quotient l G rg _ _ _ _ _ hFx hFa hFb) ⟨Nat.le_of_ble_eq_true rfl, Nat.le_of_ble_eq_true rfl⟩ (hFx) rfl rfl (Nat.le_of_ble_eq_true rfl) ⟨Nat.zero_le _, Nat.zero_le _⟩ dX4_byQuotients_19 (fun r_19 I_19 L_19 p_19 => ?_)
        rw [show fr L1 (wb + k) = V k from (hG1.fr (by omega)).trans (hV k (by omega)), show fr L1 (wb + 0) = V 0 from (hG1.fr (by omega)).trans (hV 0 (by omega))] at p_19
        obtain ⟨rfl, ⟨z_19, hz_19, rfl, rfl⟩ | ⟨hz_19, rfl, rfl⟩⟩ := p_19
        · refine j_if_ne (tgt := 27) C dX4_byQuotients_22 (by decide) (fun h_22 => ?_) (fun h_22 => ?_)
          · first | refine n_iinc (n := 1) C dX4_byQuotients_27 rfl (by decide) ?_ | refine j_iinc C dX4_byQuotients_27 rfl rfl (by decide) ?_
            refine j_goto (tgt := 2) C dX4_byQuotients_30 (by decide) ?_
            refine ih_lp (k + 1) _ (by omega) (by omega) (by omega) (hG1.set (by omega) (by omega)) (fun j q1 q2 => ?_)
            rw [fr_setF]
            split
            · next e => rw [show j = k by omega]; exact hz_19
            · next e => exact hC j q1 (by omega)
          · exact absurd h_22 (by decide)
        · refine j_if_ne (tgt := 27) C dX4_byQuotients_22 (by decide) (fun h_22 => ?_) (fun h_22 => ?_)
          · exact absurd rfl h_22
          · refine j_iconst (v := nI 0) C dX4_byQuotients_25 (by decide) ?_
            exact j_zret C hr (by first | rfl | exact b2i_n _ rfl) dX4_byQuotients_26 (⟨rfl, hG1, Or.inr ⟨rfl, cif_f (fun q => q k (by omega) (by omega) hz_19)⟩⟩)
  refine j_iconst (v := nI 1) C dX4_byQuotients_0 (by decide) ?_
  refine j_istore_n C dX4_byQuotients_1 rfl (by decide) ?_
  by_cases hn0 : n = 0
  · subst hn0; exact lp 2 1 L (by omega) (by omega) (by omega) Fm.rf (fun j q1 q2 => by omega)
  · exact lp (n + 2) 1 L (by omega) (by omega) (by omega) Fm.rf (fun j q1 q2 => by omega)

set_option maxHeartbeats 4000000 in
set_option maxRecDepth 20000 in
theorem c_X4_takeWhole (l : Launch) (G : GT) (rg : RgT) (I : II) (L : LL) (o wo n : Nat) (ho : isPt rg o) (hw : Ar rg wo 1 5) (hwd : wo < o ∨ o + 9 ≤ wo) (hn : n < 5) (hwl : ∀ k, k ≤ n → L wo k ≠ LEA) : CtV l yX4_takeWhole cX4_takeWhole 4 none 4 G rg I L [.ref (gB G + o), .ref (gB G + wo), .int (nI n)] (fun I1 L1 => I = I1 ∧ Fm (o + 3) (o + 7) L L1 ∧ ∀ k, 1 ≤ k → k ≤ n → fr L1 (o + 2 + k) = (L wo k, 1)) := by
  refine ctV_of [some (.ref (gB G + o)), some (.ref (gB G + wo)), some (.int (nI n)), none] rfl (Nat.le_of_ble_eq_true rfl) (by decide) ?_
  intro p e s m args below meth c C hr
  obtain ⟨ho1, ho2, ho3, ho4, ho5⟩ := id ho
  have lp : ∀ (fuel : Nat) (k : Nat) (L1 : LL), n + 1 < fuel + k → k ≤ n + 1 → 1 ≤ k → Fm (o + 3) (o + 7) L L1 → (∀ j, 1 ≤ j → j < k → fr L1 (o + 2 + j) = (L wo j, 1)) → J p l e (rmD 4) s m args below meth c (MQ below (QV G rg (fun I1 L1 => I = I1 ∧ Fm (o + 3) (o + 7) L L1 ∧ ∀ k, 1 ≤ k → k ≤ n → fr L1 (o + 2 + k) = (L wo k, 1))) args s 0 0 (rg_A G rg)) 4 G rg 0 0 I L1 2 [some (.ref (gB G + o)), some (.ref (gB G + wo)), some (.int (nI n)), some (.int (nI k))] [] := by
    intro fuel
    induction fuel with
    | zero => intro k L1 h1 h2 h3 hG1 hC; exfalso; omega
    | succ fuel ih_lp =>
      intro k L1 h1 h2 h3 hG1 hC
      refine j_iload_n C dX4_takeWhole_2 rfl rfl ?_
      refine j_iload_n C dX4_takeWhole_3 rfl rfl ?_
      first | refine n_icmp_gt (tgt := 27) C (by omega) (by omega) dX4_takeWhole_4 (by decide) (fun h_4 => ?_) (fun h_4 => ?_) | refine j_icmp_gt (tgt := 27) C dX4_takeWhole_4 (by decide) (fun h_4 => ?_) (fun h_4 => ?_)
      · exact j_vret C hr dX4_takeWhole_27 (⟨rfl, hG1, fun j q1 q2 => hC j q1 (by omega)⟩)
      · refine j_aload_n C dX4_takeWhole_7 rfl rfl ?_
        refine g_getR C (by assumption) fl_X4_13 (by rfl) dX4_takeWhole_8 ?_
        refine j_iload_n C dX4_takeWhole_11 rfl rfl ?_
        refine g_aald3 C (ho2) (by omega) (by decide) (by rfl) (by omega) dX4_takeWhole_12 ?_
        refine j_aload_n C dX4_takeWhole_13 rfl rfl ?_
        refine j_iload_n C dX4_takeWhole_14 rfl rfl ?_
        refine g_lald C (hw) (by omega) (by decide) dX4_takeWhole_15 ?_
        refine t_l (congrFun (hG1 wo (by omega)) k) ?_
        refine j_lconst (v := 1) C dX4_takeWhole_16 (by decide) ?_
        have hFx : isF rg (o + 2 + k) := ho3 k (by omega)
        refine g_cvI C vc_X4_33 (c_X2_put l G rg _ _ _ _ _ hFx) ⟨Nat.le_of_ble_eq_true rfl, Nat.le_of_ble_eq_true rfl⟩ (hFx) rfl rfl (Nat.le_of_ble_eq_true rfl) ⟨Nat.zero_le _, Nat.zero_le _⟩ dX4_takeWhole_17 (fun r_17 I_17 L_17 p_17 => ?_)
        obtain ⟨rfl, rfl, rfl⟩ := Put_some p_17 (put_1 (hwl k (by omega)))
        refine j_pop C dX4_takeWhole_20 rfl ?_
        first | refine n_iinc (n := 1) C dX4_takeWhole_21 rfl (by decide) ?_ | refine j_iinc C dX4_takeWhole_21 rfl rfl (by decide) ?_
        refine j_goto (tgt := 2) C dX4_takeWhole_24 (by decide) ?_
        refine ih_lp (k + 1) _ (by omega) (by omega) (by omega) (hG1.set (by omega) (by omega)) (fun j q1 q2 => ?_)
        rw [fr_setF]
        split
        · next e => rw [show j = k by omega]
        · next e => exact hC j q1 (by omega)
  refine j_iconst (v := nI 1) C dX4_takeWhole_0 (by decide) ?_
  refine j_istore_n C dX4_takeWhole_1 rfl (by decide) ?_
  by_cases hn0 : n = 0
  · subst hn0; exact lp 2 1 L (by omega) (by omega) (by omega) Fm.rf (fun j q1 q2 => by omega)
  · exact lp (n + 2) 1 L (by omega) (by omega) (by omega) Fm.rf (fun j q1 q2 => by omega)

set_option maxHeartbeats 4000000 in
set_option maxRecDepth 20000 in
theorem c_X4_takeMultiple (l : Launch) (G : GT) (rg : RgT) (I : II) (L : LL) (o wa wb n e0 : Nat) (V : Nat → Fr) (ho : isPt rg o) (hv : Rr rg wa 3 5 (fun j => wb + j)) (hvF : ∀ j, j < 5 → isF rg (wb + j)) (hwb : 0 < wb) (hwd : wb + 5 ≤ o ∨ o + 9 ≤ wb) (hn : n < 5) (hV : ∀ j, j < 5 → fr L (wb + j) = V j) (he0 : e0 ≤ 40) : CtI l yX4_takeMultiple cX4_takeMultiple 6 (some FieldType.boolean) 4 G rg I L [.ref (gB G + o), .ref (gB G + wa), .long (tw e0), .int (nI n)] (fun r I1 L1 => I = I1 ∧ Fm (o + 3) (o + 8) L L1 ∧ ((r = b2i true ∧ ∃ X, mulX n e0 V = some X ∧ PR o n L1 X) ∨ (r = b2i false ∧ mulX n e0 V = none))) := by
  refine ctI_of [some (.ref (gB G + o)), some (.ref (gB G + wa)), some (.long (tw e0)), none, some (.int (nI n)), none] rfl (Nat.le_of_ble_eq_true rfl) (by decide) ?_
  intro p e s m args below meth c C hr
  obtain ⟨ho1, ho2, ho3, ho4, ho5⟩ := id ho
  have lp : ∀ (fuel : Nat) (k : Nat) (L1 : LL), n + 1 < fuel + k → k ≤ n + 1 → 1 ≤ k → Fm (o + 3) (o + 8) L L1 → (∀ j, 1 ≤ j → j < k → fMul (tw e0, 1) (V j) = some (fr L1 (o + 2 + j))) → J p l e (rmD 4) s m args below meth c (MQ below (QI G rg (fun r I1 L1 => I = I1 ∧ Fm (o + 3) (o + 8) L L1 ∧ ((r = b2i true ∧ ∃ X, mulX n e0 V = some X ∧ PR o n L1 X) ∨ (r = b2i false ∧ mulX n e0 V = none)))) args s 0 0 (rg_A G rg)) 6 G rg 0 0 I L1 3 [some (.ref (gB G + o)), some (.ref (gB G + wa)), some (.long (tw e0)), none, some (.int (nI n)), some (.int (nI k))] [] := by
    intro fuel
    induction fuel with
    | zero => intro k L1 h1 h2 h3 hG1 hC; exfalso; omega
    | succ fuel ih_lp =>
      intro k L1 h1 h2 h3 hG1 hC
      refine j_iload C dX4_takeMultiple_3 rfl ?_
      refine j_iload C dX4_takeMultiple_5 rfl ?_
      first | refine n_icmp_gt (tgt := 51) C (by omega) (by omega) dX4_takeMultiple_7 (by decide) (fun h_7 => ?_) (fun h_7 => ?_) | refine j_icmp_gt (tgt := 51) C dX4_takeMultiple_7 (by decide) (fun h_7 => ?_) (fun h_7 => ?_)
      · refine j_iconst (v := nI 1) C dX4_takeMultiple_51 (by decide) ?_
        exact j_zret C hr (by first | rfl | exact b2i_n _ rfl) dX4_takeMultiple_52 (⟨rfl, hG1, Or.inl ⟨rfl, _, cif_t (fun j h1 h2 q => by rw [hC j h1 (by omega)] at q; cases q), fun j h1 h2 => by show _ = if j = 0 then (1, 1) else (fMul (tw e0, 1) (V j)).getD (0, 1); rw [if_neg (by omega), hC j h1 (by omega)]; rfl⟩⟩)
      · refine j_aload_n C dX4_takeMultiple_10 rfl rfl ?_
        refine g_getR C (by assumption) fl_X4_22 (by rfl) dX4_takeMultiple_11 ?_
        refine j_lload_n C dX4_takeMultiple_14 rfl rfl ?_
        refine j_lconst (v := 1) C dX4_takeMultiple_15 (by decide) ?_
        refine g_cvI C vc_X4_33 (c_X2_put l G rg _ _ _ _ _ ho4) ⟨Nat.le_of_ble_eq_true rfl, Nat.le_of_ble_eq_true rfl⟩ (ho4) rfl rfl (Nat.le_of_ble_eq_true rfl) ⟨Nat.zero_le _, Nat.zero_le _⟩ dX4_takeMultiple_16 (fun r_16 I_16 L_16 p_16 => ?_)
        obtain ⟨rfl, rfl, rfl⟩ := Put_some p_16 (put_1 (tw_ne e0 he0))
        · have hdum : True := trivial
          refine j_if_eq (tgt := 43) C dX4_takeMultiple_19 (by decide) (fun h_19 => ?_) (fun h_19 => ?_)
          · exact absurd h_19 (by decide)
          · refine j_aload_n C dX4_takeMultiple_22 rfl rfl ?_
            refine g_getR C (by assumption) fl_X4_13 (by rfl) dX4_takeMultiple_23 ?_
            refine j_iload C dX4_takeMultiple_26 rfl ?_
            refine g_aald3 C (ho2) (by omega) (by decide) (by rfl) (by omega) dX4_takeMultiple_28 ?_
            refine j_aload_n C dX4_takeMultiple_29 rfl rfl ?_
            refine g_getR C (by assumption) fl_X4_22 (by rfl) dX4_takeMultiple_30 ?_
            refine j_aload_n C dX4_takeMultiple_33 rfl rfl ?_
            refine j_iload C dX4_takeMultiple_34 rfl ?_
            refine g_aald3 C (hv) (by omega) (by decide) (by rfl) (by omega) dX4_takeMultiple_36 ?_
            have hFx : isF rg (o + 2 + k) := ho3 k (by omega)
            have hFa := hvF k (by omega)
            refine g_cvI C vc_X4_57 (c_X2_product l G rg _ _ _ _ _ hFx ho4 hFa) ⟨Nat.le_of_ble_eq_true rfl, Nat.le_of_ble_eq_true rfl⟩ (hFx) rfl rfl (Nat.le_of_ble_eq_true rfl) ⟨Nat.zero_le _, Nat.zero_le _⟩ dX4_takeMultiple_37 (fun r_37 I_37 L_37 p_37 => ?_)
            rw [fr_setF, if_pos rfl, fr_setF, if_neg (by omega), show fr L1 (wb + k) = V k from (hG1.fr (by omega)).trans (hV k (by omega))] at p_37
            obtain ⟨rfl, ⟨z_37, hz_37, rfl, rfl⟩ | ⟨hz_37, rfl, rfl⟩⟩ := p_37
            · refine j_if_ne (tgt := 45) C dX4_takeMultiple_40 (by decide) (fun h_40 => ?_) (fun h_40 => ?_)
              · first | refine n_iinc (n := 1) C dX4_takeMultiple_45 rfl (by decide) ?_ | refine j_iinc C dX4_takeMultiple_45 rfl rfl (by decide) ?_
                refine j_goto (tgt := 3) C dX4_takeMultiple_48 (by decide) ?_
                refine ih_lp (k + 1) _ (by omega) (by omega) (by omega) ((hG1.set (by omega) (by omega)).set (by omega) (by omega)) (fun j q1 q2 => ?_)
                rw [fr_setF]
                split
                · next e => rw [show j = k by omega]; exact hz_37
                · next e => rw [fr_setF, if_neg (by omega)]; exact hC j q1 (by omega)
              · exact absurd h_40 (by decide)
            · refine j_if_ne (tgt := 45) C dX4_takeMultiple_40 (by decide) (fun h_40 => ?_) (fun h_40 => ?_)
              · exact absurd rfl h_40
              · refine j_iconst (v := nI 0) C dX4_takeMultiple_43 (by decide) ?_
                exact j_zret C hr (by first | rfl | exact b2i_n _ rfl) dX4_takeMultiple_44 (⟨rfl, hG1.set (by omega) (by omega), Or.inr ⟨rfl, cif_f (fun q => q k (by omega) (by omega) hz_37)⟩⟩)
  refine j_iconst (v := nI 1) C dX4_takeMultiple_0 (by decide) ?_
  refine j_istore C dX4_takeMultiple_1 (by decide) ?_
  by_cases hn0 : n = 0
  · subst hn0; exact lp 2 1 L (by omega) (by omega) (by omega) Fm.rf (fun j q1 q2 => by omega)
  · exact lp (n + 2) 1 L (by omega) (by omega) (by omega) Fm.rf (fun j q1 q2 => by omega)

set_option maxHeartbeats 4000000 in
set_option maxRecDepth 20000 in
theorem c_X4_workOut (l : Launch) (G : GT) (rg : RgT) (I : II) (L : LL) (o fo n : Nat) (X : Nat → Fr) (fv : Nat → Int32) (ho : isPt rg o) (hf : isFm rg fo) (hfv : ∀ k, k < 25 → I (fo + 1) k = fv k) (hn : n < 5) (hX : ∀ k, k ≤ n → fr L (o + 2 + k) = X k) : CtI l yX4_workOut cX4_workOut 6 (some FieldType.boolean) 4 G rg I L [.ref (gB G + o), .ref (gB G + fo), .int (nI n)] (fun r I1 L1 => I = I1 ∧ Fm (o + 7) (o + 9) L L1 ∧ ((r = b2i true ∧ ∃ w, woI fv X n (n + 1) (0, 1) = some w ∧ fr L1 (o + 8) = w) ∨ (r = b2i false ∧ woI fv X n (n + 1) (0, 1) = none))) := by
  refine ctI_of [some (.ref (gB G + o)), some (.ref (gB G + fo)), some (.int (nI n)), none, none, none] rfl (Nat.le_of_ble_eq_true rfl) (by decide) ?_
  intro p e s m args below meth c C hr
  obtain ⟨ho1, ho2, ho3, ho4, ho5⟩ := id ho
  have hf1 := hf.1
  have lp : ∀ (fuel : Nat) (i : Nat) (L1 : LL) (acc : Fr), n + 1 < fuel + i → i ≤ n + 1 → Fm (o + 7) (o + 9) L L1 → fr L1 (o + 8) = acc → woI fv X n (n + 1 - i) acc = woI fv X n (n + 1) (0, 1) → J p l e (rmD 4) s m args below meth c (MQ below (QI G rg (fun r I1 L1 => I = I1 ∧ Fm (o + 7) (o + 9) L L1 ∧ ((r = b2i true ∧ ∃ w, woI fv X n (n + 1) (0, 1) = some w ∧ fr L1 (o + 8) = w) ∨ (r = b2i false ∧ woI fv X n (n + 1) (0, 1) = none)))) args s 0 0 (rg_A G rg)) 6 G rg 0 0 I L1 12 [some (.ref (gB G + o)), some (.ref (gB G + fo)), some (.int (nI n)), some (.int (nI i)), none, none] [] := by
    intro fuel
    induction fuel with
    | zero => intro i L1 acc h1 h2 hG1 hA1 he; exfalso; omega
    | succ fuel ih_lp =>
      intro i L1 acc h1 h2 hG1 hA1 he
      refine j_iload_n C dX4_workOut_12 rfl rfl ?_
      refine j_iload_n C dX4_workOut_13 rfl rfl ?_
      first | refine n_icmp_gt (tgt := 130) C (by omega) (by omega) dX4_workOut_14 (by decide) (fun h_14 => ?_) (fun h_14 => ?_) | refine j_icmp_gt (tgt := 130) C dX4_workOut_14 (by decide) (fun h_14 => ?_) (fun h_14 => ?_)
      · refine j_iconst (v := nI 1) C dX4_workOut_130 (by decide) ?_
        exact j_zret C hr (by first | rfl | exact b2i_n _ rfl) dX4_workOut_131 (⟨rfl, hG1, Or.inl ⟨rfl, acc, by rw [← he, show n + 1 - i = 0 by omega]; rfl, hA1⟩⟩)
      · refine j_iload_n C dX4_workOut_17 rfl rfl ?_
        refine j_istore C dX4_workOut_18 (by decide) ?_
        obtain ⟨acc0, hacc0⟩ : ∃ q, q = acc := ⟨_, rfl⟩
        rw [← hacc0] at he
        have lq : ∀ (fuel : Nat) (j : Nat) (L1 : LL) (acc : Fr), n + 1 < fuel + j → j ≤ n + 1 → i ≤ j → Fm (o + 7) (o + 9) L L1 → fr L1 (o + 8) = acc → woJ fv X n i (n + 1 - j) acc = woJ fv X n i (n + 1 - i) acc0 → J p l e (rmD 4) s m args below meth c (MQ below (QI G rg (fun r I1 L1 => I = I1 ∧ Fm (o + 7) (o + 9) L L1 ∧ ((r = b2i true ∧ ∃ w, woI fv X n (n + 1) (0, 1) = some w ∧ fr L1 (o + 8) = w) ∨ (r = b2i false ∧ woI fv X n (n + 1) (0, 1) = none)))) args s 0 0 (rg_A G rg)) 6 G rg 0 0 I L1 20 [some (.ref (gB G + o)), some (.ref (gB G + fo)), some (.int (nI n)), some (.int (nI i)), some (.int (nI j)), none] [] := by
          intro fuel
          induction fuel with
          | zero => intro j L1 acc q1 q2 q3 hG1 hA1 hj0; exfalso; omega
          | succ fuel ih_lq =>
            intro j L1 acc q1 q2 q3 hG1 hA1 hj0
            refine j_iload C dX4_workOut_20 rfl ?_
            refine j_iload_n C dX4_workOut_22 rfl rfl ?_
            first | refine n_icmp_gt (tgt := 124) C (by omega) (by omega) dX4_workOut_23 (by decide) (fun h_23 => ?_) (fun h_23 => ?_) | refine j_icmp_gt (tgt := 124) C dX4_workOut_23 (by decide) (fun h_23 => ?_) (fun h_23 => ?_)
            · first | refine n_iinc (n := 1) C dX4_workOut_124 rfl (by decide) ?_ | refine j_iinc C dX4_workOut_124 rfl rfl (by decide) ?_
              refine j_goto (tgt := 12) C dX4_workOut_127 (by decide) ?_
              refine j_rm 4 ?_
              refine j_rm 5 ?_
              exact ih_lp (i + 1) L1 acc (by omega) (by omega) hG1 hA1 (by rw [← he]; exact (woI_s (i := i) (a := acc0) (y := acc) (by omega) (by rw [← hj0, show n + 1 - j = 0 by omega]; rfl)).symm)
            · refine j_aload_n C dX4_workOut_26 rfl rfl ?_
              refine g_getR C (by assumption) fl_X4_22 (by rfl) dX4_workOut_27 ?_
              refine j_aload_n C dX4_workOut_30 rfl rfl ?_
              refine j_iload_n C dX4_workOut_31 rfl rfl ?_
              refine j_iload C dX4_workOut_32 rfl ?_
              refine g_cvI C vc_X4_60 (c_X1_number l G rg _ _ _ _ _ hf (by omega) (by omega)) ⟨Nat.le_of_ble_eq_true rfl, Nat.le_of_ble_eq_true rfl⟩ (hf1) rfl rfl (Nat.le_of_ble_eq_true rfl) ⟨Nat.zero_le _, Nat.zero_le _⟩ dX4_workOut_34 (fun r_34 I_34 L_34 p_34 => ?_)
              obtain ⟨rfl, rfl, rfl⟩ := p_34
              rw [hfv _ (ix_lt (by omega) (by omega))]
              refine j_i2l C dX4_workOut_37 ?_
              refine j_lconst (v := 1) C dX4_workOut_38 (by decide) ?_
              refine g_cvI C vc_X4_33 (c_X2_put l G rg _ _ _ _ _ ho4) ⟨Nat.le_of_ble_eq_true rfl, Nat.le_of_ble_eq_true rfl⟩ (ho4) rfl rfl (Nat.le_of_ble_eq_true rfl) ⟨Nat.zero_le _, Nat.zero_le _⟩ dX4_workOut_39 (fun r_39 I_39 L_39 p_39 => ?_)
              obtain ⟨rfl, rfl, rfl⟩ := Put_some p_39 (put_1 (i2l_ne _))
              · have hFi : isF rg (o + 2 + i) := ho3 i (by omega)
                have hFj : isF rg (o + 2 + j) := ho3 j (by omega)
                refine j_if_eq (tgt := 108) C dX4_workOut_42 (by decide) (fun h_42 => ?_) (fun h_42 => ?_)
                · exact absurd h_42 (by decide)
                · refine j_aload_n C dX4_workOut_45 rfl rfl ?_
                  refine g_getR C (by assumption) fl_X4_22 (by rfl) dX4_workOut_46 ?_
                  refine j_aload_n C dX4_workOut_49 rfl rfl ?_
                  refine g_getR C (by assumption) fl_X4_22 (by rfl) dX4_workOut_50 ?_
                  refine j_aload_n C dX4_workOut_53 rfl rfl ?_
                  refine g_getR C (by assumption) fl_X4_13 (by rfl) dX4_workOut_54 ?_
                  refine j_iload_n C dX4_workOut_57 rfl rfl ?_
                  refine g_aald3 C (ho2) (by omega) (by decide) (by rfl) (by omega) dX4_workOut_58 ?_
                  refine g_cvI C vc_X4_57 (c_X2_product l G rg _ _ _ _ _ ho4 ho4 hFi) ⟨Nat.le_of_ble_eq_true rfl, Nat.le_of_ble_eq_true rfl⟩ (ho4) rfl rfl (Nat.le_of_ble_eq_true rfl) ⟨Nat.zero_le _, Nat.zero_le _⟩ dX4_workOut_59 (fun r_59 I_59 L_59 p_59 => ?_)
                  rw [fr_setF, if_pos rfl, fr_setF, if_neg (by omega), show fr L1 (o + 2 + i) = X i from (hG1.fr (by omega)).trans (hX i (by omega))] at p_59
                  obtain ⟨rfl, ⟨z_59, hz_59, rfl, rfl⟩ | ⟨hz_59, rfl, rfl⟩⟩ := p_59
                  · refine j_if_eq (tgt := 108) C dX4_workOut_62 (by decide) (fun h_62 => ?_) (fun h_62 => ?_)
                    · exact absurd h_62 (by decide)
                    · refine j_aload_n C dX4_workOut_65 rfl rfl ?_
                      refine g_getR C (by assumption) fl_X4_22 (by rfl) dX4_workOut_66 ?_
                      refine j_aload_n C dX4_workOut_69 rfl rfl ?_
                      refine g_getR C (by assumption) fl_X4_22 (by rfl) dX4_workOut_70 ?_
                      refine j_aload_n C dX4_workOut_73 rfl rfl ?_
                      refine g_getR C (by assumption) fl_X4_13 (by rfl) dX4_workOut_74 ?_
                      refine j_iload C dX4_workOut_77 rfl ?_
                      refine g_aald3 C (ho2) (by omega) (by decide) (by rfl) (by omega) dX4_workOut_79 ?_
                      refine g_cvI C vc_X4_57 (c_X2_product l G rg _ _ _ _ _ ho4 ho4 hFj) ⟨Nat.le_of_ble_eq_true rfl, Nat.le_of_ble_eq_true rfl⟩ (ho4) rfl rfl (Nat.le_of_ble_eq_true rfl) ⟨Nat.zero_le _, Nat.zero_le _⟩ dX4_workOut_80 (fun r_80 I_80 L_80 p_80 => ?_)
                      rw [fr_setF, if_pos rfl, fr_setF, if_neg (by omega), fr_setF, if_neg (by omega), show fr L1 (o + 2 + j) = X j from (hG1.fr (by omega)).trans (hX j (by omega))] at p_80
                      obtain ⟨rfl, ⟨z_80, hz_80, rfl, rfl⟩ | ⟨hz_80, rfl, rfl⟩⟩ := p_80
                      · have htm : tmO fv X i j = some z_80 := by unfold tmO; rw [hz_59]; exact hz_80
                        refine j_if_eq (tgt := 108) C dX4_workOut_83 (by decide) (fun h_83 => ?_) (fun h_83 => ?_)
                        · exact absurd h_83 (by decide)
                        · refine j_aload_n C dX4_workOut_86 rfl rfl ?_
                          refine g_getR C (by assumption) fl_X4_26 (by rfl) dX4_workOut_87 ?_
                          refine j_aload_n C dX4_workOut_90 rfl rfl ?_
                          refine g_getR C (by assumption) fl_X4_26 (by rfl) dX4_workOut_91 ?_
                          refine j_aload_n C dX4_workOut_94 rfl rfl ?_
                          refine g_getR C (by assumption) fl_X4_22 (by rfl) dX4_workOut_95 ?_
                          refine g_cvI C vc_X4_66 (c_X2_sum l G rg _ _ _ _ _ ho5 ho5 ho4) ⟨Nat.le_of_ble_eq_true rfl, Nat.le_of_ble_eq_true rfl⟩ (ho5) rfl rfl (Nat.le_of_ble_eq_true rfl) ⟨Nat.zero_le _, Nat.zero_le _⟩ dX4_workOut_98 (fun r_98 I_98 L_98 p_98 => ?_)
                          rw [fr_setF, if_neg (by omega), fr_setF, if_neg (by omega), fr_setF, if_neg (by omega), fr_setF, if_pos rfl, hA1] at p_98
                          obtain ⟨rfl, ⟨z_98, hz_98, rfl, rfl⟩ | ⟨hz_98, rfl, rfl⟩⟩ := p_98
                          · refine j_if_eq (tgt := 108) C dX4_workOut_101 (by decide) (fun h_101 => ?_) (fun h_101 => ?_)
                            · exact absurd h_101 (by decide)
                            · refine j_iconst (v := nI 1) C dX4_workOut_104 (by decide) ?_
                              refine j_goto (tgt := 109) C dX4_workOut_105 (by decide) ?_
                              refine j_istore C dX4_workOut_109 (by decide) ?_
                              refine j_iload C dX4_workOut_111 rfl ?_
                              refine j_if_ne (tgt := 118) C dX4_workOut_113 (by decide) (fun h_113 => ?_) (fun h_113 => ?_)
                              · first | refine n_iinc (n := 1) C dX4_workOut_118 rfl (by decide) ?_ | refine j_iinc C dX4_workOut_118 rfl rfl (by decide) ?_
                                refine j_goto (tgt := 20) C dX4_workOut_121 (by decide) ?_
                                refine j_rm 5 ?_
                                exact ih_lq (j + 1) _ z_98 (by omega) (by omega) (by omega) ((((hG1.set (by omega) (by omega)).set (by omega) (by omega)).set (by omega) (by omega)).set (by omega) (by omega)) (by rw [fr_setF, if_pos rfl]) (by rw [← hj0, woJ_s (by omega) htm hz_98])
                              · exact absurd h_113 (by decide)
                          · have hbad : woJ fv X n i (n + 1 - j) acc = none := woJ_n2 (by omega) htm hz_98
                            refine j_if_eq (tgt := 108) C dX4_workOut_101 (by decide) (fun h_101 => ?_) (fun h_101 => ?_)
                            · refine j_iconst (v := nI 0) C dX4_workOut_108 (by decide) ?_
                              refine j_istore C dX4_workOut_109 (by decide) ?_
                              refine j_iload C dX4_workOut_111 rfl ?_
                              refine j_if_ne (tgt := 118) C dX4_workOut_113 (by decide) (fun h_113 => ?_) (fun h_113 => ?_)
                              · exact absurd rfl h_113
                              · refine j_iconst (v := nI 0) C dX4_workOut_116 (by decide) ?_
                                exact j_zret C hr (by first | rfl | exact b2i_n _ rfl) dX4_workOut_117 (⟨rfl, by first | exact hG1.set (by omega) (by omega) | exact (hG1.set (by omega) (by omega)).set (by omega) (by omega) | exact ((hG1.set (by omega) (by omega)).set (by omega) (by omega)).set (by omega) (by omega), Or.inr ⟨rfl, by rw [← he, woI_n (by omega) (by rw [← hj0]; exact hbad)]⟩⟩)
                            · exact absurd rfl h_101
                      · have hbad : woJ fv X n i (n + 1 - j) acc = none := woJ_n1 (by omega) (by unfold tmO; rw [hz_59]; exact hz_80)
                        refine j_if_eq (tgt := 108) C dX4_workOut_83 (by decide) (fun h_83 => ?_) (fun h_83 => ?_)
                        · refine j_iconst (v := nI 0) C dX4_workOut_108 (by decide) ?_
                          refine j_istore C dX4_workOut_109 (by decide) ?_
                          refine j_iload C dX4_workOut_111 rfl ?_
                          refine j_if_ne (tgt := 118) C dX4_workOut_113 (by decide) (fun h_113 => ?_) (fun h_113 => ?_)
                          · exact absurd rfl h_113
                          · refine j_iconst (v := nI 0) C dX4_workOut_116 (by decide) ?_
                            exact j_zret C hr (by first | rfl | exact b2i_n _ rfl) dX4_workOut_117 (⟨rfl, by first | exact hG1.set (by omega) (by omega) | exact (hG1.set (by omega) (by omega)).set (by omega) (by omega) | exact ((hG1.set (by omega) (by omega)).set (by omega) (by omega)).set (by omega) (by omega), Or.inr ⟨rfl, by rw [← he, woI_n (by omega) (by rw [← hj0]; exact hbad)]⟩⟩)
                        · exact absurd rfl h_83
                  · have hbad : woJ fv X n i (n + 1 - j) acc = none := woJ_n1 (by omega) (by unfold tmO; rw [hz_59]; rfl)
                    refine j_if_eq (tgt := 108) C dX4_workOut_62 (by decide) (fun h_62 => ?_) (fun h_62 => ?_)
                    · refine j_iconst (v := nI 0) C dX4_workOut_108 (by decide) ?_
                      refine j_istore C dX4_workOut_109 (by decide) ?_
                      refine j_iload C dX4_workOut_111 rfl ?_
                      refine j_if_ne (tgt := 118) C dX4_workOut_113 (by decide) (fun h_113 => ?_) (fun h_113 => ?_)
                      · exact absurd rfl h_113
                      · refine j_iconst (v := nI 0) C dX4_workOut_116 (by decide) ?_
                        exact j_zret C hr (by first | rfl | exact b2i_n _ rfl) dX4_workOut_117 (⟨rfl, by first | exact hG1.set (by omega) (by omega) | exact (hG1.set (by omega) (by omega)).set (by omega) (by omega) | exact ((hG1.set (by omega) (by omega)).set (by omega) (by omega)).set (by omega) (by omega), Or.inr ⟨rfl, by rw [← he, woI_n (by omega) (by rw [← hj0]; exact hbad)]⟩⟩)
                    · exact absurd rfl h_62
        exact lq (n + 2) i L1 acc (by omega) (by omega) (by omega) hG1 hA1 (by rw [hacc0])
  refine j_aload_n C dX4_workOut_0 rfl rfl ?_
  refine g_getR C (by assumption) fl_X4_26 (by rfl) dX4_workOut_1 ?_
  refine j_lconst (v := 0) C dX4_workOut_4 (by decide) ?_
  refine j_lconst (v := 1) C dX4_workOut_5 (by decide) ?_
  refine g_cvI C vc_X4_33 (c_X2_put l G rg _ _ _ _ _ ho5) ⟨Nat.le_of_ble_eq_true rfl, Nat.le_of_ble_eq_true rfl⟩ (ho5) rfl rfl (Nat.le_of_ble_eq_true rfl) ⟨Nat.zero_le _, Nat.zero_le _⟩ dX4_workOut_6 (fun r_6 I_6 L_6 p_6 => ?_)
  obtain ⟨rfl, rfl, rfl⟩ := Put_some p_6 put_00
  refine j_pop C dX4_workOut_9 rfl ?_
  refine j_iconst (v := nI 0) C dX4_workOut_10 (by decide) ?_
  refine j_istore_n C dX4_workOut_11 rfl (by decide) ?_
  exact lp (n + 2) 0 _ (0, 1) (by omega) (by omega) (Fm.rf.set (by omega) (by omega)) (by rw [fr_setF, if_pos rfl]) rfl

set_option maxHeartbeats 4000000 in
set_option maxRecDepth 20000 in
theorem c_X4_byWitness (l : Launch) (G : GT) (rg : RgT) (I : II) (L : LL) (o wa wb fo n : Nat) (V : Nat → Fr) (fv : Nat → Int32) (ho : isPt rg o) (hv : Rr rg wa 3 5 (fun j => wb + j)) (hvF : ∀ j, j < 5 → isF rg (wb + j)) (hwb : 0 < wb) (hwd : wb + 5 ≤ o ∨ o + 9 ≤ wb) (hn : n < 5) (hf : isFm rg fo) (hfv : ∀ k, k < 25 → I (fo + 1) k = fv k) (hV : ∀ j, j < 5 → fr L (wb + j) = V j) (hx0 : fr L (o + 2) = (1, 1)) : CtI l yX4_byWitness cX4_byWitness 5 (some FieldType.boolean) 5 G rg I L [.ref (gB G + o), .ref (gB G + wa), .ref (gB G + fo), .int (nI n)] (fun r I1 L1 => I = I1 ∧ Fm (o + 3) (o + 9) L L1 ∧ ((r = b2i true ∧ ∃ X, ptO n fv V = some X ∧ PR o n L1 X) ∨ (r = b2i false ∧ ptO n fv V = none))) := by
  refine ctI_of [some (.ref (gB G + o)), some (.ref (gB G + wa)), some (.ref (gB G + fo)), some (.int (nI n)), none] rfl (Nat.le_of_ble_eq_true rfl) (by decide) ?_
  intro p e s m args below meth c C hr
  obtain ⟨ho1, ho2, ho3, ho4, ho5⟩ := id ho
  have hv0F := hvF 0 (by omega)
  have hV0 := hV 0 (by omega)
  refine j_aload_n C dX4_byWitness_0 rfl rfl ?_
  refine j_iconst (v := nI 0) C dX4_byWitness_1 (by decide) ?_
  refine g_aald3 C (hv) (by omega) (by decide) (by rfl) (by omega) dX4_byWitness_2 ?_
  refine g_cvI C vc_X4_37 (c_X2_sign l G rg _ _ _ hv0F) ⟨Nat.le_of_ble_eq_true rfl, Nat.le_of_ble_eq_true rfl⟩ (hv0F) rfl rfl (Nat.le_of_ble_eq_true rfl) ⟨Nat.zero_le _, Nat.zero_le _⟩ dX4_byWitness_3 (fun r_3 I_3 L_3 p_3 => ?_)
  obtain ⟨rfl, rfl, rfl⟩ := p_3
  rw [show L (wb + 0) 0 = (V 0).1 from congrArg Prod.fst hV0]
  refine j_if_eq (tgt := 16) C dX4_byWitness_6 (by decide) (fun h_6 => ?_) (fun h_6 => ?_)
  · refine j_iconst (v := nI 0) C dX4_byWitness_16 (by decide) ?_
    refine j_istore C dX4_byWitness_17 (by decide) ?_
    have h60 : (V 0).1 = 0 := (lgc_0 _).mp h_6
    have lp : ∀ (fuel : Nat) (e0 : Nat) (L1 : LL), 41 < fuel + e0 → e0 ≤ 41 → Fm (o + 3) (o + 9) L L1 → ptE n fv V (41 - e0) e0 = ptO n fv V → J p l e (rmD 5) s m args below meth c (MQ below (QI G rg (fun r I1 L1 => I = I1 ∧ Fm (o + 3) (o + 9) L L1 ∧ ((r = b2i true ∧ ∃ X, ptO n fv V = some X ∧ PR o n L1 X) ∨ (r = b2i false ∧ ptO n fv V = none)))) args s 0 0 (rg_A G rg)) 5 G rg 0 0 I L1 19 [some (.ref (gB G + o)), some (.ref (gB G + wa)), some (.ref (gB G + fo)), some (.int (nI n)), some (.int (nI e0))] [] := by
      intro fuel
      induction fuel with
      | zero => intro e0 L1 h1 h2 hG1 he; exfalso; omega
      | succ fuel ih_lp =>
        intro e0 L1 h1 h2 hG1 he
        refine j_iload C dX4_byWitness_19 rfl ?_
        refine j_bipush (v := nI 40) C dX4_byWitness_21 (by decide) ?_
        first | refine n_icmp_gt (tgt := 68) C (by omega) (by omega) dX4_byWitness_23 (by decide) (fun h_23 => ?_) (fun h_23 => ?_) | refine j_icmp_gt (tgt := 68) C dX4_byWitness_23 (by decide) (fun h_23 => ?_) (fun h_23 => ?_)
        · refine j_iconst (v := nI 0) C dX4_byWitness_68 (by decide) ?_
          exact j_zret C hr (by first | rfl | exact b2i_n _ rfl) dX4_byWitness_69 (⟨rfl, hG1, Or.inr ⟨rfl, by rw [← he, show 41 - e0 = 0 by omega]; rfl⟩⟩)
        · refine j_aload_n C dX4_byWitness_26 rfl rfl ?_
          refine j_aload_n C dX4_byWitness_27 rfl rfl ?_
          refine j_lconst (v := 1) C dX4_byWitness_28 (by decide) ?_
          refine j_iload C dX4_byWitness_29 rfl ?_
          refine j_lshl C dX4_byWitness_31 ?_
          refine t_l (lsh_tw e0) ?_
          refine j_iload_n C dX4_byWitness_32 rfl rfl ?_
          refine g_cvI C vc_X4_45 (c_X4_takeMultiple l G rg _ _ o wa wb n e0 V ho hv hvF hwb hwd hn (fun j hj => (hG1.fr (by omega)).trans (hV j hj)) h_23) ⟨Nat.le_of_ble_eq_true rfl, Nat.le_of_ble_eq_true rfl⟩ (ho1) rfl rfl (Nat.le_of_ble_eq_true rfl) ⟨Nat.zero_le _, Nat.zero_le _⟩ dX4_byWitness_33 (fun r_33 I_33 L_33 p_33 => ?_)
          obtain ⟨rfl, hG33, ⟨rfl, X, hX, hPX⟩ | ⟨rfl, hX⟩⟩ := p_33
          · have hX0 : X 0 = (1, 1) := by
              unfold mulX at hX
              by_cases hc : ∀ k, 1 ≤ k → k ≤ n → fMul (tw e0, 1) (V k) ≠ none
              · rw [cif_t hc] at hX; cases hX; rfl
              · rw [cif_f hc] at hX; cases hX
            refine j_if_eq (tgt := 48) C dX4_byWitness_36 (by decide) (fun h_36 => ?_) (fun h_36 => ?_)
            · exact absurd h_36 (by decide)
            · refine j_aload_n C dX4_byWitness_39 rfl rfl ?_
              refine j_aload_n C dX4_byWitness_40 rfl rfl ?_
              refine j_iload_n C dX4_byWitness_41 rfl rfl ?_
              refine g_cvI C vc_X4_49 (c_X4_workOut l G rg _ _ o fo n X fv ho hf hfv hn (fun k hk => by by_cases hk0 : k = 0; (subst hk0; rw [hX0]; exact ((hG33.fr (by omega)).trans (hG1.fr (by omega))).trans hx0); exact hPX k (by omega) hk)) ⟨Nat.le_of_ble_eq_true rfl, Nat.le_of_ble_eq_true rfl⟩ (ho1) rfl rfl (Nat.le_of_ble_eq_true rfl) ⟨Nat.zero_le _, Nat.zero_le _⟩ dX4_byWitness_42 (fun r_42 I_42 L_42 p_42 => ?_)
              obtain ⟨rfl, hG42, ⟨rfl, w, hw, hw8⟩ | ⟨rfl, hw⟩⟩ := p_42
              · refine j_if_ne (tgt := 50) C dX4_byWitness_45 (by decide) (fun h_45 => ?_) (fun h_45 => ?_)
                · refine j_aload_n C dX4_byWitness_50 rfl rfl ?_
                  refine g_getR C (by assumption) fl_X4_26 (by rfl) dX4_byWitness_51 ?_
                  refine g_cvI C vc_X4_37 (c_X2_sign l G rg _ _ _ ho5) ⟨Nat.le_of_ble_eq_true rfl, Nat.le_of_ble_eq_true rfl⟩ (ho5) rfl rfl (Nat.le_of_ble_eq_true rfl) ⟨Nat.zero_le _, Nat.zero_le _⟩ dX4_byWitness_54 (fun r_54 I_54 L_54 p_54 => ?_)
                  obtain ⟨rfl, rfl, rfl⟩ := p_54
                  rw [show L_42 (o + 8) 0 = w.1 from congrArg Prod.fst hw8]
                  refine j_if_ge (tgt := 62) C dX4_byWitness_57 (by decide) (fun h_57 => ?_) (fun h_57 => ?_)
                  · first | refine n_iinc (n := 1) C dX4_byWitness_62 rfl (by decide) ?_ | refine j_iinc C dX4_byWitness_62 rfl rfl (by decide) ?_
                    refine j_goto (tgt := 19) C dX4_byWitness_65 (by decide) ?_
                    exact ih_lp (e0 + 1) _ (by omega) (by omega) ((hG1.trans (hG33.mono (by omega) (by omega))).trans (hG42.mono (by omega) (by omega))) (by rw [← he, show 41 - e0 = (40 - e0) + 1 by omega, ptE, hX]; show _ = (woI _ X n (n + 1) (0, 1)).bind _; rw [hw, show 41 - (e0 + 1) = 40 - e0 by omega]; exact (if_neg (by rw [← lg_cmp_lt, Int32.not_lt]; exact h_57)).symm)
                  · refine j_iconst (v := nI 1) C dX4_byWitness_60 (by decide) ?_
                    exact j_zret C hr (by first | rfl | exact b2i_n _ rfl) dX4_byWitness_61 (⟨rfl, (hG1.trans (hG33.mono (by omega) (by omega))).trans (hG42.mono (by omega) (by omega)), Or.inl ⟨rfl, X, by rw [← he, show 41 - e0 = (40 - e0) + 1 by omega, ptE, hX]; show (woI _ X n (n + 1) (0, 1)).bind _ = some X; rw [hw]; exact if_pos (by rw [← lg_cmp_lt, ← Int32.not_le]; exact h_57), fun k k1 k2 => (hG42.fr (by omega)).trans (hPX k k1 k2)⟩⟩)
                · exact absurd h_45 (by decide)
              · refine j_if_ne (tgt := 50) C dX4_byWitness_45 (by decide) (fun h_45 => ?_) (fun h_45 => ?_)
                · exact absurd rfl h_45
                · refine j_iconst (v := nI 0) C dX4_byWitness_48 (by decide) ?_
                  exact j_zret C hr (by first | rfl | exact b2i_n _ rfl) dX4_byWitness_49 (by first | exact ⟨rfl, hG1.trans (hG33.mono (by omega) (by omega)), Or.inr ⟨rfl, by rw [← he, show 41 - e0 = (40 - e0) + 1 by omega, ptE, hX]; rfl⟩⟩ | exact ⟨rfl, (hG1.trans (hG33.mono (by omega) (by omega))).trans (hG42.mono (by omega) (by omega)), Or.inr ⟨rfl, by rw [← he, show 41 - e0 = (40 - e0) + 1 by omega, ptE, hX]; show (woI _ X n (n + 1) (0, 1)).bind _ = none; rw [hw]; rfl⟩⟩)
          · refine j_if_eq (tgt := 48) C dX4_byWitness_36 (by decide) (fun h_36 => ?_) (fun h_36 => ?_)
            · refine j_iconst (v := nI 0) C dX4_byWitness_48 (by decide) ?_
              exact j_zret C hr (by first | rfl | exact b2i_n _ rfl) dX4_byWitness_49 (by first | exact ⟨rfl, hG1.trans (hG33.mono (by omega) (by omega)), Or.inr ⟨rfl, by rw [← he, show 41 - e0 = (40 - e0) + 1 by omega, ptE, hX]; rfl⟩⟩ | exact ⟨rfl, (hG1.trans (hG33.mono (by omega) (by omega))).trans (hG42.mono (by omega) (by omega)), Or.inr ⟨rfl, by rw [← he, show 41 - e0 = (40 - e0) + 1 by omega, ptE, hX]; show (woI _ X n (n + 1) (0, 1)).bind _ = none; rw [hw]; rfl⟩⟩)
            · exact absurd rfl h_36
    exact lp 42 0 L (by omega) (by omega) Fm.rf (by unfold ptO; rw [if_pos h60])
  · refine j_aload_n C dX4_byWitness_9 rfl rfl ?_
    refine j_aload_n C dX4_byWitness_10 rfl rfl ?_
    refine j_iload_n C dX4_byWitness_11 rfl rfl ?_
    refine g_cvI C vc_X4_41 (c_X4_byQuotients l G rg _ _ o wa wb n V ho hv hvF hwb hwd hn hV) ⟨Nat.le_of_ble_eq_true rfl, Nat.le_of_ble_eq_true rfl⟩ (ho1) rfl rfl (Nat.le_of_ble_eq_true rfl) ⟨Nat.zero_le _, Nat.zero_le _⟩ dX4_byWitness_12 (fun r_12 I_12 L_12 p_12 => ?_)
    obtain ⟨rfl, hG12, hq12⟩ := p_12
    exact j_zret C hr (by rcases hq12 with ⟨rfl, -⟩ | ⟨rfl, -⟩ <;> rfl) dX4_byWitness_15 (⟨rfl, hG12.mono (by omega) (by omega), by unfold ptO; rw [if_neg (fun q => h_6 ((lgc_0 _).mpr q))]; exact hq12⟩)
