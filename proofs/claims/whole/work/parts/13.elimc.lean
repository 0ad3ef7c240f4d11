/-! ===== the elimination's cells ===== -/
def RelC (n o : Nat) (I : II) (L : LL) (E : ES) : Prop :=
  I o 6 = nI n ∧ I o 7 = nI (eS E) ∧ eS E ≤ 5 ∧ (∀ i j, i ≤ n → j ≤ n → fr L (o + 3 + (i * 5 + j)) = eM E i j) ∧ (∀ k, k < 5 → I (o + 29) k = b2i (eL E k)) ∧
  ∀ s, s < eS E → I (o + 39 + 8 * s) 2 = nI (eP E s) ∧ eP E s ≤ n ∧ fr L (o + 40 + 8 * s) = eW E s ∧ ∀ j, j < 5 → fr L (o + 42 + 8 * s + j) = eN E s j
theorem up2_I {α : Type} {lo hi o k : Nat} {f g : Nat → Nat → α} {v : α} (h : Fm lo hi f g) (h1 : lo ≤ o) (h2 : o < hi) : Fm lo hi f (up2 g o k v) := fun q hq => by
  rw [up2_ne _ (fun e => hq (by omega))]
  exact h q hq
theorem lgc_0 (x : Int64) : lg_cmp x 0 = 0 ↔ x = 0 := lg_cmp_eq x 0
theorem nat_sub1 (a : Nat) : nI (a + 1) - nI 1 = nI a := by rw [pk_sub (by omega)]; congr 1
/-- RelC with other cells, in which what it reads is the same -/
theorem RelC.cong {n o : Nat} {I I1 : II} {L L1 : LL} {E : ES} (h : RelC n o I L E) (hn : n < 5) (h1 : I1 o 6 = I o 6) (h2 : I1 o 7 = I o 7) (h3 : ∀ q, q < 25 → fr L1 (o + 3 + q) = fr L (o + 3 + q)) (h4 : I1 (o + 29) = I (o + 29)) (h5 : ∀ s, s < 5 → I1 (o + 39 + 8 * s) 2 = I (o + 39 + 8 * s) 2) (h6 : ∀ q, o + 39 ≤ q → q < o + 79 → fr L1 q = fr L q) : RelC n o I1 L1 E := by
  obtain ⟨a1, a2, a3, a4, a5, a6⟩ := h
  refine ⟨h1.trans a1, h2.trans a2, a3, fun i j hi hj => ?_, fun k hk => by rw [h4]; exact a5 k hk, fun s hs => ?_⟩
  · rw [h3 _ (by omega)]; exact a4 i j hi hj
  · obtain ⟨b1, b2, b3, b4⟩ := a6 s hs
    refine ⟨by rw [h5 s (by omega)]; exact b1, b2, by rw [h6 _ (by omega) (by omega)]; exact b3, fun j hj => by rw [h6 _ (by omega) (by omega)]; exact b4 j hj⟩
theorem red_10 : fPut (decO 1) (decO 1) = some ((1, 1) : Fr) := by decide
theorem red_00 : fPut (decO 0) (decO 1) = some ((0, 1) : Fr) := by decide
/-- the square that a pivot starts -/
def sqI (k : Nat) (j : Nat) : Fr := if j = k then (1, 1) else (0, 1)

set_option maxHeartbeats 4000000 in
set_option maxRecDepth 20000 in
theorem c_X6_inOrder (l : Launch) (G : GT) (rg : RgT) (I : II) (L : LL) (t n : Nat) (ht : t < 2 ^ 30) (hn : n < 2 ^ 30) : CtI l yX6_inOrder cX6_inOrder 2 (some FieldType.int) 1 G rg I L [.int (nI t), .int (nI n)] (fun r I1 L1 => r = nI (ordn n t) ∧ I = I1 ∧ L = L1) := by
  refine ctI_of [some (.int (nI t)), some (.int (nI n))] rfl (Nat.le_of_ble_eq_true rfl) (by decide) ?_
  intro p e s m args below meth c C hr
  refine j_iload_n C dX6_inOrder_0 rfl rfl ?_
  refine j_iload_n C dX6_inOrder_1 rfl rfl ?_
  first | refine n_icmp_ge (tgt := 11) C (by omega) (by omega) dX6_inOrder_2 (by decide) (fun h_2 => ?_) (fun h_2 => ?_) | refine j_icmp_ge (tgt := 11) C dX6_inOrder_2 (by decide) (fun h_2 => ?_) (fun h_2 => ?_)
  · refine j_iconst (v := nI 0) C dX6_inOrder_11 (by decide) ?_
    exact j_iret C hr dX6_inOrder_12 (⟨by unfold ordn; first | rw [if_pos h_2] | rw [if_neg (by omega)], rfl, rfl⟩)
  · refine j_iload_n C dX6_inOrder_5 rfl rfl ?_
    refine j_iconst (v := nI 1) C dX6_inOrder_6 (by decide) ?_
    first | refine n_iadd C dX6_inOrder_7 ?_ | refine j_iadd C dX6_inOrder_7 ?_
    refine j_goto (tgt := 12) C dX6_inOrder_8 (by decide) ?_
    exact j_iret C hr dX6_inOrder_12 (⟨by unfold ordn; first | rw [if_pos h_2] | rw [if_neg (by omega)], rfl, rfl⟩)

set_option maxHeartbeats 4000000 in
set_option maxRecDepth 20000 in
theorem c_X5_start (l : Launch) (G : GT) (rg : RgT) (I : II) (L : LL) (o k a : Nat) (hs : isSq rg o) (ha : isF rg a) (hk : k < 5) (had : ¬ (o + 1 ≤ a ∧ a < o + 8)) : CtV l yX5_start cX5_start 4 none 3 G rg I L [.ref (gB G + o), .int (nI k), .ref (gB G + a)] (fun I1 L1 => up2 I o 2 (nI k) = I1 ∧ Fm (o + 1) (o + 8) L L1 ∧ fr L1 (o + 1) = fr L a ∧ ∀ j, j < 5 → fr L1 (o + 3 + j) = sqI k j) := by
  refine ctV_of [some (.ref (gB G + o)), some (.int (nI k)), some (.ref (gB G + a)), none] rfl (Nat.le_of_ble_eq_true rfl) (by decide) ?_
  intro p e s m args below meth c C hr
  obtain ⟨hs1, hs2, hs3, hs4⟩ := id hs
  have lp : ∀ (fuel : Nat) (j : Nat) (L1 : LL), 5 < fuel + j → j ≤ 5 → Fm (o + 1) (o + 8) L L1 → fr L1 (o + 1) = fr L a → (∀ i, i < j → fr L1 (o + 3 + i) = sqI k i) → J p l e (rmD 3) s m args below meth c (MQ below (QV G rg (fun I1 L1 => up2 I o 2 (nI k) = I1 ∧ Fm (o + 1) (o + 8) L L1 ∧ fr L1 (o + 1) = fr L a ∧ ∀ j, j < 5 → fr L1 (o + 3 + j) = sqI k j)) args s 0 0 (rg_A G rg)) 4 G rg 0 0 (up2 I o 2 (nI k)) L1 15 [some (.ref (gB G + o)), some (.int (nI k)), some (.ref (gB G + a)), some (.int (nI j))] [] := by
    intro fuel
    induction fuel with
    | zero => intro j L1 h1 h2 hF1 hA1 hC; exfalso; omega
    | succ fuel ih_lp =>
      intro j L1 h1 h2 hF1 hA1 hC
      refine j_iload_n C dX5_start_15 rfl rfl ?_
      refine j_iconst (v := nI 5) C dX5_start_16 (by decide) ?_
      first | refine n_icmp_ge (tgt := 47) C (by omega) (by omega) dX5_start_17 (by decide) (fun h_17 => ?_) (fun h_17 => ?_) | refine j_icmp_ge (tgt := 47) C dX5_start_17 (by decide) (fun h_17 => ?_) (fun h_17 => ?_)
      · exact j_vret C hr dX5_start_47 (⟨rfl, hF1, hA1, fun j2 hj2 => hC j2 (by omega)⟩)
      · refine j_aload_n C dX5_start_20 rfl rfl ?_
        refine g_getR C (by assumption) fl_X5_22 (by rfl) dX5_start_21 ?_
        refine j_iload_n C dX5_start_24 rfl rfl ?_
        refine g_aald3 C (by assumption) (by omega) (by decide) (by rfl) (by omega) dX5_start_25 ?_
        refine j_iload_n C dX5_start_26 rfl rfl ?_
        refine j_iload_n C dX5_start_27 rfl rfl ?_
        first | refine n_icmp_ne (tgt := 35) C (by omega) (by omega) dX5_start_28 (by decide) (fun h_28 => ?_) (fun h_28 => ?_) | refine j_icmp_ne (tgt := 35) C dX5_start_28 (by decide) (fun h_28 => ?_) (fun h_28 => ?_)
        · refine j_lconst (v := 0) C dX5_start_35 (by decide) ?_
          refine j_lconst (v := 1) C dX5_start_36 (by decide) ?_
          have hF := hs4 j (by omega)
          refine g_cvI C vc_X5_34 (c_X2_put l G rg _ _ _ _ _ hF) ⟨Nat.le_of_ble_eq_true rfl, Nat.le_of_ble_eq_true rfl⟩ (hF) rfl rfl (Nat.le_of_ble_eq_true rfl) ⟨Nat.zero_le _, Nat.zero_le _⟩ dX5_start_37 (fun r_37 I_37 L_37 p_37 => ?_)
          obtain ⟨rfl, rfl, rfl⟩ := Put_some p_37 (z := sqI k j) (by rw [show sqI k j = (0, 1) from if_neg h_28]; exact red_00)
          refine j_pop C dX5_start_40 rfl ?_
          first | refine n_iinc (n := 1) C dX5_start_41 rfl (by decide) ?_ | refine j_iinc C dX5_start_41 rfl rfl (by decide) ?_
          refine j_goto (tgt := 15) C dX5_start_44 (by decide) ?_
          refine ih_lp (j + 1) _ (by omega) (by omega) (hF1.set (by omega) (by omega)) (by rw [fr_setF, if_neg (by omega)]; exact hA1) (fun i hi => ?_)
          rw [fr_setF]
          split
          · next e => rw [show i = j by omega]
          · next e => exact hC i (by omega)
        · refine j_lconst (v := 1) C dX5_start_31 (by decide) ?_
          refine j_goto (tgt := 36) C dX5_start_32 (by decide) ?_
          refine j_lconst (v := 1) C dX5_start_36 (by decide) ?_
          have hF := hs4 j (by omega)
          refine g_cvI C vc_X5_34 (c_X2_put l G rg _ _ _ _ _ hF) ⟨Nat.le_of_ble_eq_true rfl, Nat.le_of_ble_eq_true rfl⟩ (hF) rfl rfl (Nat.le_of_ble_eq_true rfl) ⟨Nat.zero_le _, Nat.zero_le _⟩ dX5_start_37 (fun r_37 I_37 L_37 p_37 => ?_)
          obtain ⟨rfl, rfl, rfl⟩ := Put_some p_37 (z := sqI k j) (by rw [show sqI k j = (1, 1) from if_pos h_28]; exact red_10)
          refine j_pop C dX5_start_40 rfl ?_
          first | refine n_iinc (n := 1) C dX5_start_41 rfl (by decide) ?_ | refine j_iinc C dX5_start_41 rfl rfl (by decide) ?_
          refine j_goto (tgt := 15) C dX5_start_44 (by decide) ?_
          refine ih_lp (j + 1) _ (by omega) (by omega) (hF1.set (by omega) (by omega)) (by rw [fr_setF, if_neg (by omega)]; exact hA1) (fun i hi => ?_)
          rw [fr_setF]
          split
          · next e => rw [show i = j by omega]
          · next e => exact hC i (by omega)
  refine j_aload_n C dX5_start_0 rfl rfl ?_
  refine j_iload_n C dX5_start_1 rfl rfl ?_
  refine g_putI C (by assumption) fw_X5_26 (by rfl) rfl (fits_int _) dX5_start_2 ?_
  refine j_aload_n C dX5_start_5 rfl rfl ?_
  refine g_getR C (by assumption) fl_X5_12 (by rfl) dX5_start_6 ?_
  refine j_aload_n C dX5_start_9 rfl rfl ?_
  refine g_cvV C vc_X5_30 (c_X2_copy l G rg _ _ _ _ hs2 ha) ⟨Nat.le_of_ble_eq_true rfl, Nat.le_of_ble_eq_true rfl⟩ (hs2) rfl rfl (Nat.le_of_ble_eq_true rfl) ⟨Nat.zero_le _, Nat.zero_le _⟩ dX5_start_10 (fun I_10 L_10 p_10 => ?_)
  obtain ⟨rfl, rfl⟩ := p_10
  refine j_iconst (v := nI 0) C dX5_start_13 (by decide) ?_
  refine j_istore_n C dX5_start_14 rfl (by decide) ?_
  exact lp 6 0 _ (by omega) (by omega) (Fm.rf.set (by omega) (by omega)) (by rw [fr_setF, if_pos rfl]) (fun i hi => absurd hi (Nat.not_lt_zero i))

set_option maxHeartbeats 4000000 in
set_option maxRecDepth 20000 in
theorem c_X0_start (l : Launch) (G : GT) (rg : RgT) (I : II) (L : LL) (o n : Nat) (ho : isEl rg o) (hn : n < 5) : CtV l yX0_start cX0_start 3 none 1 G rg I L [.ref (gB G + o), .int (nI n)] (fun I1 L1 => Fm o (o + 79) I I1 ∧ L = L1 ∧ I1 o 6 = nI n ∧ I1 o 7 = nI 0 ∧ ∀ k, k < 5 → I1 (o + 29) k = b2i (decide (k ≤ n))) := by
  refine ctV_of [some (.ref (gB G + o)), some (.int (nI n)), none] rfl (Nat.le_of_ble_eq_true rfl) (by decide) ?_
  intro p e s m args below meth c C hr
  obtain ⟨ho1, ho2, ho3, ho4, ho5, ho6, ho7, ho8, ho9⟩ := id ho
  have lp : ∀ (fuel : Nat) (k : Nat) (I1 : II), 5 < fuel + k → k ≤ 5 → Fm o (o + 79) I I1 → I1 o 6 = nI n → I1 o 7 = nI 0 → (∀ i, i < k → I1 (o + 29) i = b2i (decide (i ≤ n))) → J p l e (rmD 1) s m args below meth c (MQ below (QV G rg (fun I1 L1 => Fm o (o + 79) I I1 ∧ L = L1 ∧ I1 o 6 = nI n ∧ I1 o 7 = nI 0 ∧ ∀ k, k < 5 → I1 (o + 29) k = b2i (decide (k ≤ n)))) args s 0 0 (rg_A G rg)) 3 G rg 0 0 I1 L 12 [some (.ref (gB G + o)), some (.int (nI n)), some (.int (nI k))] [] := by
    intro fuel
    induction fuel with
    | zero => intro k I1 h1 h2 hF1 hN hS hLf; exfalso; omega
    | succ fuel ih_lp =>
      intro k I1 h1 h2 hF1 hN hS hLf
      refine j_iload_n C dX0_start_12 rfl rfl ?_
      refine j_iconst (v := nI 5) C dX0_start_13 (by decide) ?_
      first | refine n_icmp_ge (tgt := 42) C (by omega) (by omega) dX0_start_14 (by decide) (fun h_14 => ?_) (fun h_14 => ?_) | refine j_icmp_ge (tgt := 42) C dX0_start_14 (by decide) (fun h_14 => ?_) (fun h_14 => ?_)
      · exact j_vret C hr dX0_start_42 (⟨hF1, rfl, hN, hS, fun k hk => hLf k (by omega)⟩)
      · refine j_aload_n C dX0_start_17 rfl rfl ?_
        refine g_getR C (by assumption) fl_X0_18 (by rfl) dX0_start_18 ?_
        refine j_iload_n C dX0_start_21 rfl rfl ?_
        refine j_iload_n C dX0_start_22 rfl rfl ?_
        refine j_aload_n C dX0_start_23 rfl rfl ?_
        refine g_getI C (by assumption) fl_X0_46 (by rfl) dX0_start_24 ?_
        refine t_i hN ?_
        first | refine n_icmp_gt (tgt := 34) C (by omega) (by omega) dX0_start_27 (by decide) (fun h_27 => ?_) (fun h_27 => ?_) | refine j_icmp_gt (tgt := 34) C dX0_start_27 (by decide) (fun h_27 => ?_) (fun h_27 => ?_)
        · refine j_iconst (v := nI 0) C dX0_start_34 (by decide) ?_
          refine g_zast (x := nI 0) C ho3 (by omega) (by decide) rfl dX0_start_35 ?_
          have hbk : nI 0 = b2i (decide (k ≤ n)) := by rw [decide_eq_false (by omega)]; rfl
          first | refine n_iinc (n := 1) C dX0_start_36 rfl (by decide) ?_ | refine j_iinc C dX0_start_36 rfl rfl (by decide) ?_
          refine j_goto (tgt := 12) C dX0_start_39 (by decide) ?_
          refine ih_lp (k + 1) _ (by omega) (by omega) (up2_I hF1 (by omega) (by omega)) (by rw [up2_ne _ (by omega)]; exact hN) (by rw [up2_ne _ (by omega)]; exact hS) (fun i hi => ?_)
          rw [up2_at, if_pos rfl]
          split
          · next e => rw [e]; exact hbk
          · next e => exact hLf i (by omega)
        · refine j_iconst (v := nI 1) C dX0_start_30 (by decide) ?_
          refine j_goto (tgt := 35) C dX0_start_31 (by decide) ?_
          refine g_zast (x := nI 1) C ho3 (by omega) (by decide) rfl dX0_start_35 ?_
          have hbk : nI 1 = b2i (decide (k ≤ n)) := by rw [decide_eq_true (by omega)]; rfl
          first | refine n_iinc (n := 1) C dX0_start_36 rfl (by decide) ?_ | refine j_iinc C dX0_start_36 rfl rfl (by decide) ?_
          refine j_goto (tgt := 12) C dX0_start_39 (by decide) ?_
          refine ih_lp (k + 1) _ (by omega) (by omega) (up2_I hF1 (by omega) (by omega)) (by rw [up2_ne _ (by omega)]; exact hN) (by rw [up2_ne _ (by omega)]; exact hS) (fun i hi => ?_)
          rw [up2_at, if_pos rfl]
          split
          · next e => rw [e]; exact hbk
          · next e => exact hLf i (by omega)
  refine j_aload_n C dX0_start_0 rfl rfl ?_
  refine j_iload_n C dX0_start_1 rfl rfl ?_
  refine g_putI C (by assumption) fw_X0_46 (by rfl) rfl (fits_int _) dX0_start_2 ?_
  refine j_aload_n C dX0_start_5 rfl rfl ?_
  refine j_iconst (v := nI 0) C dX0_start_6 (by decide) ?_
  refine g_putI C (by assumption) fw_X0_50 (by rfl) rfl (fits_int _) dX0_start_7 ?_
  refine j_iconst (v := nI 0) C dX0_start_10 (by decide) ?_
  refine j_istore_n C dX0_start_11 rfl (by decide) ?_
  exact lp 6 0 _ (by omega) (by omega) (up2_I (up2_I Fm.rf (by omega) (by omega)) (by omega) (by omega)) (by rw [up2_at, up2_at]; simp) (by rw [up2_at]; simp) (fun i hi => absurd hi (Nat.not_lt_zero i))

set_option maxHeartbeats 4000000 in
set_option maxRecDepth 20000 in
theorem c_X0_firstLeftOfSign (l : Launch) (G : GT) (rg : RgT) (I : II) (L : LL) (o n : Nat) (sg : Int32) (E : ES) (ho : isEl rg o) (hn : n < 5) (hR : RelC n o I L E) : CtI l yX0_firstLeftOfSign cX0_firstLeftOfSign 4 (some FieldType.int) 3 G rg I L [.ref (gB G + o), .int sg] (fun r I1 L1 => I = I1 ∧ L = L1 ∧ match ffo (isSg sg E) n (n + 1) with | some k => r = nI k | none => r = -1) := by
  refine ctI_of [some (.ref (gB G + o)), some (.int sg), none, none] rfl (Nat.le_of_ble_eq_true rfl) (by decide) ?_
  intro p e s m args below meth c C hr
  obtain ⟨ho1, ho2, ho3, ho4, ho5, ho6, ho7, ho8, ho9⟩ := id ho
  obtain ⟨hN, hS, hS5, hM, hLf, hSq⟩ := id hR
  have lp : ∀ (fuel : Nat) (t : Nat), n + 1 < fuel + t → t ≤ n + 1 → ffo (isSg sg E) n (n + 1 - t) = ffo (isSg sg E) n (n + 1) → J p l e (rmD 3) s m args below meth c (MQ below (QI G rg (fun r I1 L1 => I = I1 ∧ L = L1 ∧ match ffo (isSg sg E) n (n + 1) with | some k => r = nI k | none => r = -1)) args s 0 0 (rg_A G rg)) 4 G rg 0 0 I L 2 [some (.ref (gB G + o)), some (.int sg), some (.int (nI t)), none] [] := by
    intro fuel
    induction fuel with
    | zero => intro t h1 h2 hf; exfalso; omega
    | succ fuel ih_lp =>
      intro t h1 h2 hf
      refine j_iload_n C dX0_firstLeftOfSign_2 rfl rfl ?_
      refine j_aload_n C dX0_firstLeftOfSign_3 rfl rfl ?_
      refine g_getI C (by assumption) fl_X0_46 (by rfl) dX0_firstLeftOfSign_4 ?_
      refine t_i hN ?_
      first | refine n_icmp_gt (tgt := 52) C (by omega) (by omega) dX0_firstLeftOfSign_7 (by decide) (fun h_7 => ?_) (fun h_7 => ?_) | refine j_icmp_gt (tgt := 52) C dX0_firstLeftOfSign_7 (by decide) (fun h_7 => ?_) (fun h_7 => ?_)
      · refine j_iconst (v := (-1)) C dX0_firstLeftOfSign_52 (by decide) ?_
        exact j_iret C hr dX0_firstLeftOfSign_53 (⟨rfl, rfl, by rw [← hf, ffo_e (by omega)]⟩)
      · refine j_iload_n C dX0_firstLeftOfSign_10 rfl rfl ?_
        refine j_aload_n C dX0_firstLeftOfSign_11 rfl rfl ?_
        refine g_getI C (by assumption) fl_X0_46 (by rfl) dX0_firstLeftOfSign_12 ?_
        refine t_i hN ?_
        refine j_csI C sc_X0_87 (c_X6_inOrder l G rg _ _ _ _ (by omega) (by omega)) ⟨Nat.le_of_ble_eq_true rfl, Nat.le_of_ble_eq_true rfl⟩ rfl rfl (Nat.le_of_ble_eq_true rfl) ⟨Nat.zero_le _, Nat.zero_le _⟩ dX0_firstLeftOfSign_15 (fun r_15 I_15 L_15 p_15 => ?_)
        obtain ⟨rfl, rfl, rfl⟩ := p_15
        refine j_istore_n C dX0_firstLeftOfSign_18 rfl (by decide) ?_
        refine j_aload_n C dX0_firstLeftOfSign_19 rfl rfl ?_
        refine g_getR C (by assumption) fl_X0_18 (by rfl) dX0_firstLeftOfSign_20 ?_
        refine j_iload_n C dX0_firstLeftOfSign_23 rfl rfl ?_
        refine g_zald C (ho3) (by have := ordn_le n t; omega) (by decide) dX0_firstLeftOfSign_24 ?_
        have hk5 := ordn_le n t
        refine t_i (hLf (ordn n t) (by omega)) ?_
        first | refine n_if_eq (tgt := 46) C dX0_firstLeftOfSign_25 (by decide) (fun h_25 => ?_) (fun h_25 => ?_) | refine j_if_eq (tgt := 46) C dX0_firstLeftOfSign_25 (by decide) (fun h_25 => ?_) (fun h_25 => ?_)
        · first | refine n_iinc (n := 1) C dX0_firstLeftOfSign_46 rfl (by decide) ?_ | refine j_iinc C dX0_firstLeftOfSign_46 rfl rfl (by decide) ?_
          refine j_goto (tgt := 2) C dX0_firstLeftOfSign_49 (by decide) ?_
          refine j_rm 3 ?_
          exact ih_lp (t + 1) (by omega) (by omega) (by rw [← hf, ffo_f (t := t) (by omega) (by unfold isSg; first | (rw [h_25]; rfl) | (rw [h_25, decide_eq_false h_41]; rfl))])
        · refine j_aload_n C dX0_firstLeftOfSign_28 rfl rfl ?_
          refine g_getR C (by assumption) fl_X0_12 (by rfl) dX0_firstLeftOfSign_29 ?_
          refine j_iload_n C dX0_firstLeftOfSign_32 rfl rfl ?_
          refine j_iload_n C dX0_firstLeftOfSign_33 rfl rfl ?_
          refine g_cvR C vc_X0_91 (c_X3_at l G rg _ _ _ _ _ ho2 (by omega) (by omega)) ⟨Nat.le_of_ble_eq_true rfl, Nat.le_of_ble_eq_true rfl⟩ (ho2.1) rfl rfl (Nat.le_of_ble_eq_true rfl) ⟨Nat.zero_le _, Nat.zero_le _⟩ dX0_firstLeftOfSign_34 (fun r_34 I_34 L_34 p_34 => ?_)
          obtain ⟨rfl, rfl, rfl⟩ := p_34
          have hF : isF rg (o + 1 + 2 + (ordn n t * 5 + ordn n t)) := ho2.2.2 _ (by omega)
          refine g_cvI C vc_X0_95 (c_X2_sign l G rg _ _ _ hF) ⟨Nat.le_of_ble_eq_true rfl, Nat.le_of_ble_eq_true rfl⟩ (hF) rfl rfl (Nat.le_of_ble_eq_true rfl) ⟨Nat.zero_le _, Nat.zero_le _⟩ dX0_firstLeftOfSign_37 (fun r_37 I_37 L_37 p_37 => ?_)
          obtain ⟨rfl, rfl, rfl⟩ := p_37
          have hv : L (o + 1 + 2 + (ordn n t * 5 + ordn n t)) 0 = (eM E (ordn n t) (ordn n t)).1 := congrArg Prod.fst (hM (ordn n t) (ordn n t) (by omega) (by omega))
          rw [hv]
          refine j_iload_n C dX0_firstLeftOfSign_40 rfl rfl ?_
          refine j_icmp_ne (tgt := 46) C dX0_firstLeftOfSign_41 (by decide) (fun h_41 => ?_) (fun h_41 => ?_)
          · first | refine n_iinc (n := 1) C dX0_firstLeftOfSign_46 rfl (by decide) ?_ | refine j_iinc C dX0_firstLeftOfSign_46 rfl rfl (by decide) ?_
            refine j_goto (tgt := 2) C dX0_firstLeftOfSign_49 (by decide) ?_
            refine j_rm 3 ?_
            exact ih_lp (t + 1) (by omega) (by omega) (by rw [← hf, ffo_f (t := t) (by omega) (by unfold isSg; first | (rw [h_25]; rfl) | (rw [h_25, decide_eq_false h_41]; rfl))])
          · refine j_iload_n C dX0_firstLeftOfSign_44 rfl rfl ?_
            exact j_iret C hr dX0_firstLeftOfSign_45 (⟨rfl, rfl, by rw [← hf, ffo_t (by omega) (by unfold isSg; rw [h_25, h_41]; simp)]⟩)
  refine j_iconst (v := nI 0) C dX0_firstLeftOfSign_0 (by decide) ?_
  refine j_istore_n C dX0_firstLeftOfSign_1 rfl (by decide) ?_
  exact lp (n + 2) 0 (by omega) (by omega) rfl

set_option maxHeartbeats 4000000 in
set_option maxRecDepth 20000 in
theorem c_X0_findPair (l : Launch) (G : GT) (rg : RgT) (I : II) (L : LL) (o n : Nat) (E : ES) (ho : isEl rg o) (hn : n < 5) (hR : RelC n o I L E) : CtI l yX0_findPair cX0_findPair 5 (some FieldType.boolean) 3 G rg I L [.ref (gB G + o)] (fun r I1 L1 => L = L1 ∧ match ffp (isPr E) n (n + 1) with | some (i, j) => r = b2i true ∧ up2 (up2 I o 8 (nI i)) o 9 (nI j) = I1 | none => r = b2i false ∧ I = I1) := by
  refine ctI_of [some (.ref (gB G + o)), none, none, none, none] rfl (Nat.le_of_ble_eq_true rfl) (by decide) ?_
  intro p e s m args below meth c C hr
  obtain ⟨ho1, ho2, ho3, ho4, ho5, ho6, ho7, ho8, ho9⟩ := id ho
  obtain ⟨hN, hS, hS5, hM, hLf, hSq⟩ := id hR
  have lp : ∀ (fuel : Nat) (t : Nat), n + 1 < fuel + t → t ≤ n + 1 → ffp (isPr E) n (n + 1 - t) = ffp (isPr E) n (n + 1) → J p l e (rmD 3) s m args below meth c (MQ below (QI G rg (fun r I1 L1 => L = L1 ∧ match ffp (isPr E) n (n + 1) with | some (i, j) => r = b2i true ∧ up2 (up2 I o 8 (nI i)) o 9 (nI j) = I1 | none => r = b2i false ∧ I = I1)) args s 0 0 (rg_A G rg)) 5 G rg 0 0 I L 2 [some (.ref (gB G + o)), some (.int (nI t)), none, none, none] [] := by
    intro fuel
    induction fuel with
    | zero => intro t h1 h2 hf; exfalso; omega
    | succ fuel ih_lp =>
      intro t h1 h2 hf
      refine j_iload_n C dX0_findPair_2 rfl rfl ?_
      refine j_aload_n C dX0_findPair_3 rfl rfl ?_
      refine g_getI C (by assumption) fl_X0_46 (by rfl) dX0_findPair_4 ?_
      refine t_i hN ?_
      first | refine n_icmp_gt (tgt := 101) C (by omega) (by omega) dX0_findPair_7 (by decide) (fun h_7 => ?_) (fun h_7 => ?_) | refine j_icmp_gt (tgt := 101) C dX0_findPair_7 (by decide) (fun h_7 => ?_) (fun h_7 => ?_)
      · refine j_iconst (v := nI 0) C dX0_findPair_101 (by decide) ?_
        exact j_zret C hr (by first | rfl | exact b2i_n _ rfl) dX0_findPair_102 (⟨rfl, by rw [← hf, ffp_e (by omega)]; exact ⟨rfl, rfl⟩⟩)
      · refine j_iload_n C dX0_findPair_10 rfl rfl ?_
        refine j_aload_n C dX0_findPair_11 rfl rfl ?_
        refine g_getI C (by assumption) fl_X0_46 (by rfl) dX0_findPair_12 ?_
        refine t_i hN ?_
        refine j_csI C sc_X0_87 (c_X6_inOrder l G rg _ _ _ _ (by omega) (by omega)) ⟨Nat.le_of_ble_eq_true rfl, Nat.le_of_ble_eq_true rfl⟩ rfl rfl (Nat.le_of_ble_eq_true rfl) ⟨Nat.zero_le _, Nat.zero_le _⟩ dX0_findPair_15 (fun r_15 I_15 L_15 p_15 => ?_)
        obtain ⟨rfl, rfl, rfl⟩ := p_15
        refine j_istore_n C dX0_findPair_18 rfl (by decide) ?_
        refine j_iload_n C dX0_findPair_19 rfl rfl ?_
        refine j_iconst (v := nI 1) C dX0_findPair_20 (by decide) ?_
        first | refine n_iadd C dX0_findPair_21 ?_ | refine j_iadd C dX0_findPair_21 ?_
        refine j_istore_n C dX0_findPair_22 rfl (by decide) ?_
        have lq : ∀ (fuel : Nat) (w : Nat), n + 1 < fuel + w → w ≤ n + 1 → ffo (isPr E (ordn n t)) n (n + 1 - w) = ffo (isPr E (ordn n t)) n (n + 1 - (t + 1)) → J p l e (rmD 3) s m args below meth c (MQ below (QI G rg (fun r I1 L1 => L = L1 ∧ match ffp (isPr E) n (n + 1) with | some (i, j) => r = b2i true ∧ up2 (up2 I o 8 (nI i)) o 9 (nI j) = I1 | none => r = b2i false ∧ I = I1)) args s 0 0 (rg_A G rg)) 5 G rg 0 0 I L 23 [some (.ref (gB G + o)), some (.int (nI t)), some (.int (nI (ordn n t))), some (.int (nI w)), none] [] := by
          intro fuel
          induction fuel with
          | zero => intro w q1 q2 hg; exfalso; omega
          | succ fuel ih_lq =>
            intro w q1 q2 hg
            refine j_iload_n C dX0_findPair_23 rfl rfl ?_
            refine j_aload_n C dX0_findPair_24 rfl rfl ?_
            refine g_getI C (by assumption) fl_X0_46 (by rfl) dX0_findPair_25 ?_
            refine t_i hN ?_
            first | refine n_icmp_gt (tgt := 95) C (by omega) (by omega) dX0_findPair_28 (by decide) (fun h_28 => ?_) (fun h_28 => ?_) | refine j_icmp_gt (tgt := 95) C dX0_findPair_28 (by decide) (fun h_28 => ?_) (fun h_28 => ?_)
            · first | refine n_iinc (n := 1) C dX0_findPair_95 rfl (by decide) ?_ | refine j_iinc C dX0_findPair_95 rfl rfl (by decide) ?_
              refine j_goto (tgt := 2) C dX0_findPair_98 (by decide) ?_
              refine j_rm 2 ?_
              refine j_rm 3 ?_
              exact ih_lp (t + 1) (by omega) (by omega) (by rw [← hf, ffp_f (t := t) (by omega) (by rw [show n - t = n + 1 - (t + 1) by omega, ← hg, ffo_e (by omega)])])
            · refine j_iload_n C dX0_findPair_31 rfl rfl ?_
              refine j_aload_n C dX0_findPair_32 rfl rfl ?_
              refine g_getI C (by assumption) fl_X0_46 (by rfl) dX0_findPair_33 ?_
              refine t_i hN ?_
              refine j_csI C sc_X0_87 (c_X6_inOrder l G rg _ _ _ _ (by omega) (by omega)) ⟨Nat.le_of_ble_eq_true rfl, Nat.le_of_ble_eq_true rfl⟩ rfl rfl (Nat.le_of_ble_eq_true rfl) ⟨Nat.zero_le _, Nat.zero_le _⟩ dX0_findPair_36 (fun r_36 I_36 L_36 p_36 => ?_)
              obtain ⟨rfl, rfl, rfl⟩ := p_36
              refine j_istore C dX0_findPair_39 (by decide) ?_
              refine j_aload_n C dX0_findPair_41 rfl rfl ?_
              refine g_getR C (by assumption) fl_X0_18 (by rfl) dX0_findPair_42 ?_
              refine j_iload_n C dX0_findPair_45 rfl rfl ?_
              refine g_zald C (ho3) (by have := ordn_le n t; omega) (by decide) dX0_findPair_46 ?_
              have hk5 := ordn_le n t
              refine t_i (hLf (ordn n t) (by omega)) ?_
              first | refine n_if_eq (tgt := 89) C dX0_findPair_47 (by decide) (fun h_47 => ?_) (fun h_47 => ?_) | refine j_if_eq (tgt := 89) C dX0_findPair_47 (by decide) (fun h_47 => ?_) (fun h_47 => ?_)
              · first | refine n_iinc (n := 1) C dX0_findPair_89 rfl (by decide) ?_ | refine j_iinc C dX0_findPair_89 rfl rfl (by decide) ?_
                refine j_goto (tgt := 23) C dX0_findPair_92 (by decide) ?_
                refine j_rm 4 ?_
                exact ih_lq (w + 1) (by omega) (by omega) (by rw [← hg, ffo_f (t := w) (by omega) (by unfold isPr; first | (rw [h_47]; rfl) | (rw [h_47, h_57]; rfl) | (rw [h_47, h_57, decide_eq_false (fun q => q h_73)]; rfl))])
              · refine j_aload_n C dX0_findPair_50 rfl rfl ?_
                refine g_getR C (by assumption) fl_X0_18 (by rfl) dX0_findPair_51 ?_
                refine j_iload C dX0_findPair_54 rfl ?_
                refine g_zald C (ho3) (by have := ordn_le n w; omega) (by decide) dX0_findPair_56 ?_
                have hk6 := ordn_le n w
                refine t_i (hLf (ordn n w) (by omega)) ?_
                first | refine n_if_eq (tgt := 89) C dX0_findPair_57 (by decide) (fun h_57 => ?_) (fun h_57 => ?_) | refine j_if_eq (tgt := 89) C dX0_findPair_57 (by decide) (fun h_57 => ?_) (fun h_57 => ?_)
                · first | refine n_iinc (n := 1) C dX0_findPair_89 rfl (by decide) ?_ | refine j_iinc C dX0_findPair_89 rfl rfl (by decide) ?_
                  refine j_goto (tgt := 23) C dX0_findPair_92 (by decide) ?_
                  refine j_rm 4 ?_
                  exact ih_lq (w + 1) (by omega) (by omega) (by rw [← hg, ffo_f (t := w) (by omega) (by unfold isPr; first | (rw [h_47]; rfl) | (rw [h_47, h_57]; rfl) | (rw [h_47, h_57, decide_eq_false (fun q => q h_73)]; rfl))])
                · refine j_aload_n C dX0_findPair_60 rfl rfl ?_
                  refine g_getR C (by assumption) fl_X0_12 (by rfl) dX0_findPair_61 ?_
                  refine j_iload_n C dX0_findPair_64 rfl rfl ?_
                  refine j_iload C dX0_findPair_65 rfl ?_
                  refine g_cvR C vc_X0_91 (c_X3_at l G rg _ _ _ _ _ ho2 (by omega) (by omega)) ⟨Nat.le_of_ble_eq_true rfl, Nat.le_of_ble_eq_true rfl⟩ (ho2.1) rfl rfl (Nat.le_of_ble_eq_true rfl) ⟨Nat.zero_le _, Nat.zero_le _⟩ dX0_findPair_67 (fun r_67 I_67 L_67 p_67 => ?_)
                  obtain ⟨rfl, rfl, rfl⟩ := p_67
                  have hF : isF rg (o + 1 + 2 + (ordn n t * 5 + ordn n w)) := ho2.2.2 _ (by omega)
                  refine g_cvI C vc_X0_95 (c_X2_sign l G rg _ _ _ hF) ⟨Nat.le_of_ble_eq_true rfl, Nat.le_of_ble_eq_true rfl⟩ (hF) rfl rfl (Nat.le_of_ble_eq_true rfl) ⟨Nat.zero_le _, Nat.zero_le _⟩ dX0_findPair_70 (fun r_70 I_70 L_70 p_70 => ?_)
                  obtain ⟨rfl, rfl, rfl⟩ := p_70
                  have hv : L (o + 1 + 2 + (ordn n t * 5 + ordn n w)) 0 = (eM E (ordn n t) (ordn n w)).1 := congrArg Prod.fst (hM (ordn n t) (ordn n w) (by omega) (by omega))
                  rw [hv]
                  refine j_if_eq (tgt := 89) C dX0_findPair_73 (by decide) (fun h_73 => ?_) (fun h_73 => ?_)
                  · first | refine n_iinc (n := 1) C dX0_findPair_89 rfl (by decide) ?_ | refine j_iinc C dX0_findPair_89 rfl rfl (by decide) ?_
                    refine j_goto (tgt := 23) C dX0_findPair_92 (by decide) ?_
                    refine j_rm 4 ?_
                    exact ih_lq (w + 1) (by omega) (by omega) (by rw [← hg, ffo_f (t := w) (by omega) (by unfold isPr; first | (rw [h_47]; rfl) | (rw [h_47, h_57]; rfl) | (rw [h_47, h_57, decide_eq_false (fun q => q h_73)]; rfl))])
                  · refine j_aload_n C dX0_findPair_76 rfl rfl ?_
                    refine j_iload_n C dX0_findPair_77 rfl rfl ?_
                    refine g_putI C (by assumption) fw_X0_53 (by rfl) rfl (fits_int _) dX0_findPair_78 ?_
                    refine j_aload_n C dX0_findPair_81 rfl rfl ?_
                    refine j_iload C dX0_findPair_82 rfl ?_
                    refine g_putI C (by assumption) fw_X0_56 (by rfl) rfl (fits_int _) dX0_findPair_84 ?_
                    refine j_iconst (v := nI 1) C dX0_findPair_87 (by decide) ?_
                    exact j_zret C hr (by first | rfl | exact b2i_n _ rfl) dX0_findPair_88 (⟨rfl, by rw [← hf, ffp_t (t := t) (j := ordn n w) (by omega) (by rw [show n - t = n + 1 - (t + 1) by omega, ← hg, ffo_t (by omega) (by unfold isPr; rw [h_47, h_57, decide_eq_true h_73]; rfl)])]; exact ⟨rfl, rfl⟩⟩)
        exact lq (n + 2) (t + 1) (by omega) (by omega) rfl
  refine j_iconst (v := nI 0) C dX0_findPair_0 (by decide) ?_
  refine j_istore_n C dX0_findPair_1 rfl (by decide) ?_
  exact lp (n + 2) 0 (by omega) (by omega) rfl
