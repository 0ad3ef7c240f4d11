/-! ===== the model: told, variables, form, term, plant ===== -/
theorem told_n {A : AS} (h : aok A) (hp : aP A ≠ 0) (h0 : ∃ c, c ≤ 2 ∧ aT A 0 = nI c) : ¬ aT A 0 < 0 := by
  obtain ⟨c, hc, e⟩ := h0
  rw [e]; exact dI_lt (by omega)
theorem ts_x {x : Int32} (h : ¬ (x < 0 ∨ ¬ x < 7)) : x = 0 ∨ x = 1 ∨ x = 2 ∨ x = 3 ∨ x = 4 ∨ x = 5 ∨ x = 6 := by
  rw [Int32.lt_iff_toInt_lt, Int32.lt_iff_toInt_lt, i32_0, show (7 : Int32).toInt = 7 by decide] at h
  simp only [i32_e]
  rw [i32_0, show (1 : Int32).toInt = 1 by decide, show (2 : Int32).toInt = 2 by decide, show (3 : Int32).toInt = 3 by decide, show (4 : Int32).toInt = 4 by decide, show (5 : Int32).toInt = 5 by decide, show (6 : Int32).toInt = 6 by decide]
  omega
set_option maxHeartbeats 4000000 in
set_option maxRecDepth 20000 in
theorem c_X7_told (l : Launch) (G : GT) (rg : RgT) (I : II) (L : LL) (A : AS) (x : Int32) (hms : isMS rg) (hRM : RM A I L) (hok : aok A) (h02 : ∃ c, c ≤ 2 ∧ aT A 0 = nI c) : CtI l yX7_told cX7_told 2 (some FieldType.int) 8 G rg I L [.ref (gB G + 0), .int x] (fun r I1 L1 => r = toldR A x ∧ I = I1 ∧ L = L1) := by
  refine ctI_of [some (.ref (gB G + 0)), some (.int x)] rfl (Nat.le_of_ble_eq_true rfl) (by decide) ?_
  intro p e s m args below meth c C hr
  obtain ⟨o0, a1, a2, a3, a4, a5, a6, a7, a8, a9, a10, a11, a12, a13, a14, a15, a16, a17, a18, a19, a20, a21, a22, a23, a24, a25, a26⟩ := id hms
  obtain ⟨mN, mF, mP, mV, mA, mS, mT, mH, m8, m7, mX, mE⟩ := id hRM
  obtain ⟨k1, k4, k12, kT, kT0, kP⟩ := id hok
  refine j_aload_n C dX7_told_0 rfl rfl ?_
  refine j_iload_n C dX7_told_1 rfl rfl ?_
  refine j_i2l C dX7_told_2 ?_
  refine j_lconst (v := 0) C dX7_told_3 (by decide) ?_
  refine j_ldc2 C kc_X7_279 dX7_told_4 ?_
  refine g_cvI C vc_X7_100 (c_X7_isIn l G rg _ _ _ _ _) ⟨Nat.le_of_ble_eq_true rfl, Nat.le_of_ble_eq_true rfl⟩ (o0) rfl rfl (Nat.le_of_ble_eq_true rfl) ⟨Nat.zero_le _, Nat.zero_le _⟩ dX7_told_7 (fun r_7 I_7 L_7 p_7 => ?_)
  obtain ⟨rfl, rfl, rfl⟩ := p_7
  refine t_i (congrArg b2i in_7) ?_
  first | refine n_if_ne (tgt := 15) C dX7_told_10 (by decide) (fun h_10 => ?_) (fun h_10 => ?_) | refine j_if_ne (tgt := 15) C dX7_told_10 (by decide) (fun h_10 => ?_) (fun h_10 => ?_)
  · have hx := of_decide_eq_true h_10
    refine j_aload_n C dX7_told_15 rfl rfl ?_
    refine g_getI C (o0) fl_X7_94 (by rfl) dX7_told_16 ?_
    refine t_i mA ?_
    refine j_if_ge (tgt := 25) C dX7_told_19 (by decide) (fun h_19 => ?_) (fun h_19 => ?_)
    · refine j_iload_n C dX7_told_25 rfl rfl ?_
      have hp0 : aP A ≠ 0 := fun z => by rw [if_pos z] at h_19; exact absurd h_19 (by decide)
      have hmt := mT hp0
      have hma : I 0 35 = aT A 0 := by rw [mA, if_neg hp0]
      have htr : toldR A x = aT A x.toNatClampNeg := by unfold toldR; rw [if_neg hx, if_neg hp0]
      rcases ts_x hx with rfl | rfl | rfl | rfl | rfl | rfl | rfl
      · refine j_tsIn (tgt := 64) (off := 38) C dX7_told_26 (by decide) (by decide) (by decide) (by decide) ?_
        refine j_aload_n C dX7_told_64 rfl rfl ?_
        refine g_getI C (o0) fl_X7_94 (by rfl) dX7_told_65 ?_
        refine t_i hma ?_
        exact j_iret C hr dX7_told_68 ⟨htr.symm, rfl, rfl⟩
      · refine j_tsIn (tgt := 69) (off := 43) C dX7_told_26 (by decide) (by decide) (by decide) (by decide) ?_
        refine j_aload_n C dX7_told_69 rfl rfl ?_
        refine g_getI C (o0) fl_X7_109 (by rfl) dX7_told_70 ?_
        refine t_i mS ?_
        exact j_iret C hr dX7_told_73 ⟨htr.symm, rfl, rfl⟩
      · refine j_tsIn (tgt := 74) (off := 48) C dX7_told_26 (by decide) (by decide) (by decide) (by decide) ?_
        refine j_aload_n C dX7_told_74 rfl rfl ?_
        refine g_getI C (o0) fl_X7_236 (by rfl) dX7_told_75 ?_
        refine t_i hmt.1 ?_
        exact j_iret C hr dX7_told_78 ⟨htr.symm, rfl, rfl⟩
      · refine j_tsIn (tgt := 79) (off := 53) C dX7_told_26 (by decide) (by decide) (by decide) (by decide) ?_
        refine j_aload_n C dX7_told_79 rfl rfl ?_
        refine g_getI C (o0) fl_X7_239 (by rfl) dX7_told_80 ?_
        refine t_i hmt.2.1 ?_
        exact j_iret C hr dX7_told_83 ⟨htr.symm, rfl, rfl⟩
      · refine j_tsIn (tgt := 84) (off := 58) C dX7_told_26 (by decide) (by decide) (by decide) (by decide) ?_
        refine j_aload_n C dX7_told_84 rfl rfl ?_
        refine g_getI C (o0) fl_X7_242 (by rfl) dX7_told_85 ?_
        refine t_i hmt.2.2.1 ?_
        exact j_iret C hr dX7_told_88 ⟨htr.symm, rfl, rfl⟩
      · refine j_tsIn (tgt := 89) (off := 63) C dX7_told_26 (by decide) (by decide) (by decide) (by decide) ?_
        refine j_aload_n C dX7_told_89 rfl rfl ?_
        refine g_getI C (o0) fl_X7_245 (by rfl) dX7_told_90 ?_
        refine t_i hmt.2.2.2.1 ?_
        exact j_iret C hr dX7_told_93 ⟨htr.symm, rfl, rfl⟩
      · refine j_tsOut (tgt := 94) C dX7_told_26 (by decide) (by decide) ?_
        refine j_aload_n C dX7_told_94 rfl rfl ?_
        refine g_getI C (o0) fl_X7_248 (by rfl) dX7_told_95 ?_
        refine t_i hmt.2.2.2.2 ?_
        exact j_iret C hr dX7_told_98 ⟨htr.symm, rfl, rfl⟩
    · refine j_bipush (v := (-2)) C dX7_told_22 (by decide) ?_
      exact j_iret C hr dX7_told_24 (⟨by unfold toldR; rw [if_neg hx, if_pos (Classical.byContradiction fun z => h_19 (by rw [if_neg z]; exact Int32.not_lt.mp (told_n hok z h02)))], rfl, rfl⟩)
  · refine j_iconst (v := (-1)) C dX7_told_13 (by decide) ?_
    exact j_iret C hr dX7_told_14 (⟨by unfold toldR; rw [if_pos (Classical.not_not.mp (of_decide_eq_false h_10))], rfl, rfl⟩)

theorem in_v {x : Int32} : decide ((1 : Int64) ≤ x.toInt64 ∧ x.toInt64 ≤ 4) = decide (¬ (x < 1 ∨ ¬ x ≤ 4)) := by
  apply decide_eq_decide.mpr
  rw [Int64.le_iff_toInt_le, Int64.le_iff_toInt_le, Int32.toInt_toInt64, Int32.lt_iff_toInt_lt, Int32.le_iff_toInt_le, show (1 : Int64).toInt = 1 by decide, show (4 : Int64).toInt = 4 by decide, show (1 : Int32).toInt = 1 by decide, show (4 : Int32).toInt = 4 by decide]
  omega
set_option maxHeartbeats 4000000 in
set_option maxRecDepth 20000 in
theorem c_X7_variables (l : Launch) (G : GT) (rg : RgT) (I : II) (L : LL) (A : AS) (x : Int32) (hms : isMS rg) (hRM : RM A I L) (hok : aok A) : CtI l yX7_variables cX7_variables 3 (some FieldType.int) 8 G rg I L [.ref (gB G + 0), .int x] (fun r I1 L1 => r = varsR A x ∧ RM (varsS A x) I1 L1) := by
  refine ctI_of [some (.ref (gB G + 0)), some (.int x), none] rfl (Nat.le_of_ble_eq_true rfl) (by decide) ?_
  intro p e s m args below meth c C hr
  obtain ⟨o0, a1, a2, a3, a4, a5, a6, a7, a8, a9, a10, a11, a12, a13, a14, a15, a16, a17, a18, a19, a20, a21, a22, a23, a24, a25, a26⟩ := id hms
  obtain ⟨mN, mF, mP, mV, mA, mS, mT, mH, m8, m7, mX, mE⟩ := id hRM
  obtain ⟨k1, k4, k12, kT, kT0, kP⟩ := id hok
  refine j_aload_n C dX7_variables_0 rfl rfl ?_
  refine j_iload_n C dX7_variables_1 rfl rfl ?_
  refine j_i2l C dX7_variables_2 ?_
  refine j_lconst (v := 1) C dX7_variables_3 (by decide) ?_
  refine j_ldc2 C kc_X7_104 dX7_variables_4 ?_
  refine g_cvI C vc_X7_100 (c_X7_isIn l G rg _ _ _ _ _) ⟨Nat.le_of_ble_eq_true rfl, Nat.le_of_ble_eq_true rfl⟩ (o0) rfl rfl (Nat.le_of_ble_eq_true rfl) ⟨Nat.zero_le _, Nat.zero_le _⟩ dX7_variables_7 (fun r_7 I_7 L_7 p_7 => ?_)
  obtain ⟨rfl, rfl, rfl⟩ := p_7
  refine t_i (congrArg b2i in_v) ?_
  first | refine n_if_ne (tgt := 15) C dX7_variables_10 (by decide) (fun h_10 => ?_) (fun h_10 => ?_) | refine j_if_ne (tgt := 15) C dX7_variables_10 (by decide) (fun h_10 => ?_) (fun h_10 => ?_)
  · refine j_aload_n C dX7_variables_15 rfl rfl ?_
    refine g_getI C (o0) fl_X7_97 (by rfl) dX7_variables_16 ?_
    refine t_i mF ?_
    refine j_istore_n C dX7_variables_19 rfl (by decide) ?_
    refine j_aload_n C dX7_variables_20 rfl rfl ?_
    refine j_iload_n C dX7_variables_21 rfl rfl ?_
    refine g_putI C (o0) fw_X7_7 (by rfl) rfl (fits_int _) dX7_variables_22 ?_
    refine j_aload_n C dX7_variables_25 rfl rfl ?_
    refine j_iconst (v := nI 0) C dX7_variables_26 (by decide) ?_
    refine g_putI C (o0) fw_X7_97 (by rfl) rfl (fits_int _) dX7_variables_27 ?_
    refine j_aload_n C dX7_variables_30 rfl rfl ?_
    refine j_iconst (v := nI 0) C dX7_variables_31 (by decide) ?_
    refine g_putI C (o0) fw_X7_106 (by rfl) rfl (fits_int _) dX7_variables_32 ?_
    refine j_aload_n C dX7_variables_35 rfl rfl ?_
    refine j_iconst (v := (-1)) C dX7_variables_36 (by decide) ?_
    refine g_putI C (o0) fw_X7_94 (by rfl) rfl (fits_int _) dX7_variables_37 ?_
    refine j_aload_n C dX7_variables_40 rfl rfl ?_
    refine j_iconst (v := nI 0) C dX7_variables_41 (by decide) ?_
    refine g_putI C (o0) fw_X7_109 (by rfl) rfl (fits_int _) dX7_variables_42 ?_
    refine j_aload_n C dX7_variables_45 rfl rfl ?_
    refine j_iconst (v := nI 0) C dX7_variables_46 (by decide) ?_
    refine g_putI C (o0) fw_X7_112 (by rfl) rfl (rfl) dX7_variables_47 ?_
    refine j_iload_n C dX7_variables_50 rfl rfl ?_
    have hq := of_decide_eq_true h_10
    have hx := vr_x (fun z => hq (Or.inl z)) (Classical.not_not.mp (fun z => hq (Or.inr z)))
    refine j_iret C hr dX7_variables_51 ?_
    unfold varsR varsS
    rw [if_neg hq, if_neg hq]
    refine ⟨rfl, ?_, ?_, ?_, fun f k hf hk => ?_, ?_, ?_, fun q => absurd rfl q, ?_, ?_, ?_, (fun X hX => by cases hX), fun q => absurd (show (0 : Int32) = 1 from q) (by decide)⟩
    · simp only [up2_at]; simp; exact hx.1
    · simp only [up2_at]; simp <;> rfl
    · simp only [up2_at]; simp <;> rfl
    · rw [up2_ne _ (by decide), up2_ne _ (by decide), up2_ne _ (by decide), up2_ne _ (by decide), up2_ne _ (by decide), up2_ne _ (by decide)]; exact mV f k hf hk
    · simp only [up2_at]; simp
    · simp only [up2_at]; simp <;> rfl
    · simp only [up2_at]; simp <;> rfl
    · simp only [up2_at]; simp; exact m8
    · obtain ⟨w, hw⟩ := m7; exact ⟨w, by simp only [up2_at]; simp; exact hw⟩
  · refine j_iconst (v := (-1)) C dX7_variables_13 (by decide) ?_
    exact j_iret C hr dX7_variables_14 (by have hq := Classical.not_not.mp (of_decide_eq_false h_10); unfold varsR varsS; rw [if_pos hq, if_pos hq]; exact ⟨rfl, hRM⟩)

set_option maxHeartbeats 4000000 in
set_option maxRecDepth 20000 in
theorem c_X7_form (l : Launch) (G : GT) (rg : RgT) (I : II) (L : LL) (A : AS) (hms : isMS rg) (hRM : RM A I L) (hok : aok A) : CtI l yX7_form cX7_form 2 (some FieldType.int) 8 G rg I L [.ref (gB G + 0)] (fun r I1 L1 => r = formR A ∧ RM (formS A) I1 L1) := by
  refine ctI_of [some (.ref (gB G + 0)), none] rfl (Nat.le_of_ble_eq_true rfl) (by decide) ?_
  intro p e s m args below meth c C hr
  obtain ⟨o0, a1, a2, a3, a4, a5, a6, a7, a8, a9, a10, a11, a12, a13, a14, a15, a16, a17, a18, a19, a20, a21, a22, a23, a24, a25, a26⟩ := id hms
  obtain ⟨mN, mF, mP, mV, mA, mS, mT, mH, m8, m7, mX, mE⟩ := id hRM
  obtain ⟨k1, k4, k12, kT, kT0, kP⟩ := id hok
  refine j_aload_n C dX7_form_0 rfl rfl ?_
  refine g_getI C (o0) fl_X7_97 (by rfl) dX7_form_1 ?_
  refine t_i mF ?_
  refine j_bipush (v := nI 12) C dX7_form_4 (by decide) ?_
  first | refine n_icmp_ne (tgt := 12) C (by omega) (by omega) dX7_form_6 (by decide) (fun h_6 => ?_) (fun h_6 => ?_) | refine j_icmp_ne (tgt := 12) C dX7_form_6 (by decide) (fun h_6 => ?_) (fun h_6 => ?_)
  · refine j_iconst (v := nI 0) C dX7_form_12 (by decide) ?_
    refine j_istore_n C dX7_form_13 rfl (by decide) ?_
    have hF12 : aF A < 12 := by omega
    have lp : ∀ (fuel : Nat) (k : Nat) (I1 : II), 25 < fuel + k → k ≤ 25 → (∀ q, q ≠ 1 → I1 q = I q) → (∀ q, ¬ (25 * aF A ≤ q ∧ q < 25 * aF A + k) → I1 1 q = I 1 q) → (∀ b, b < k → I1 1 (25 * aF A + b) = 0) → J p l e (rmD 8) s m args below meth c (MQ below (QI G rg (fun r I1 L1 => r = formR A ∧ RM (formS A) I1 L1)) args s 0 0 (rg_A G rg)) 2 G rg 0 0 I1 L 14 [some (.ref (gB G + 0)), some (.int (nI k))] [] := by
      intro fuel
      induction fuel with
      | zero => intro k I1 h1 h2 hA hB hC; exfalso; omega
      | succ fuel ih_lp =>
        intro k I1 h1 h2 hA hB hC
        refine j_iload_n C dX7_form_14 rfl rfl ?_
        refine j_bipush (v := nI 25) C dX7_form_15 (by decide) ?_
        first | refine n_icmp_ge (tgt := 41) C (by omega) (by omega) dX7_form_17 (by decide) (fun h_17 => ?_) (fun h_17 => ?_) | refine j_icmp_ge (tgt := 41) C dX7_form_17 (by decide) (fun h_17 => ?_) (fun h_17 => ?_)
        · refine j_aload_n C dX7_form_41 rfl rfl ?_
          refine j_dup C dX7_form_42 rfl ?_
          refine g_getI C (o0) fl_X7_97 (by rfl) dX7_form_43 ?_
          refine t_i ((congrFun (hA 0 (by decide)) 1).trans mF) ?_
          refine j_iconst (v := nI 1) C dX7_form_46 (by decide) ?_
          first | refine n_iadd C dX7_form_47 ?_ | refine j_iadd C dX7_form_47 ?_
          refine g_putI C (o0) fw_X7_97 (by rfl) rfl (fits_int _) dX7_form_48 ?_
          refine j_aload_n C dX7_form_51 rfl rfl ?_
          refine g_getI C (o0) fl_X7_97 (by rfl) dX7_form_52 ?_
          refine t_i (y := nI (aF A + 1)) (by rw [up2_at]; simp) ?_
          refine j_iconst (v := nI 1) C dX7_form_55 (by decide) ?_
          refine j_isub C dX7_form_56 ?_
          refine t_i (nat_sub1 _) ?_
          have hk25 : k = 25 := by omega
          subst hk25
          refine j_iret C hr dX7_form_57 ?_
          unfold formR formS
          rw [if_pos (by omega), if_pos (by omega)]
          have z0 : ∀ q, q ≠ 1 → up2 I1 0 1 (nI (aF A + 1)) 0 q = I 0 q := fun q hq => by rw [up2_at, if_pos rfl, if_neg hq, hA 0 (by decide)]
          have z1 : ∀ q, q ≠ 0 → q ≠ 1 → up2 I1 0 1 (nI (aF A + 1)) q = I q := fun q h0 hq => by rw [up2_ne _ h0, hA q hq]
          refine ⟨rfl, (z0 0 (by decide)).trans mN, by rw [up2_at]; simp, (z0 3 (by decide)).trans mP, fun f k hf hk => ?_, (z0 35 (by decide)).trans mA, (z0 14 (by decide)).trans mS, fun q => ?_, (z0 32 (by decide)).trans mH, (z0 8 (by decide)).trans m8, ?_, mX, fun q => ?_⟩
          · rw [up2_ne _ (by decide)]
            show _ = va_up (aV A) (aF A) (fun j => if j < 25 then 0 else aV A (aF A) j) f k
            by_cases e : f = aF A
            · rw [e, va_up_self, if_pos hk]; exact hC k hk
            · rw [va_up_ne _ _ e, hB _ (by omega)]; exact mV f k hf hk
          · obtain ⟨t1, t2, t3, t4, t5⟩ := mT q
            exact ⟨(z0 36 (by decide)).trans t1, (z0 37 (by decide)).trans t2, (z0 38 (by decide)).trans t3, (z0 39 (by decide)).trans t4, (z0 40 (by decide)).trans t5⟩
          · obtain ⟨w, hw⟩ := m7; exact ⟨w, (z0 7 (by decide)).trans hw⟩
          · obtain ⟨e1, e2⟩ := mE q
            exact ⟨e1.cong (z1 7 (by decide) (by decide)) (z1 8 (by decide) (by decide)) (z1 13 (by decide) (by decide)) (fun _ _ _ => rfl), e2⟩
        · refine j_aload_n C dX7_form_20 rfl rfl ?_
          refine g_getR C (o0) fl_X7_13 (by rfl) dX7_form_21 ?_
          refine j_bipush (v := nI 25) C dX7_form_24 (by decide) ?_
          refine j_aload_n C dX7_form_26 rfl rfl ?_
          refine g_getI C (o0) fl_X7_97 (by rfl) dX7_form_27 ?_
          refine t_i ((congrFun (hA 0 (by decide)) 1).trans mF) ?_
          first | refine n_imul C dX7_form_30 ?_ | refine j_imul C dX7_form_30 ?_
          refine j_iload_n C dX7_form_31 rfl rfl ?_
          first | refine n_iadd C dX7_form_32 ?_ | refine j_iadd C dX7_form_32 ?_
          refine j_iconst (v := nI 0) C dX7_form_33 (by decide) ?_
          refine g_iast C (a1) (by omega) (by decide) dX7_form_34 ?_
          first | refine n_iinc (n := 1) C dX7_form_35 rfl (by decide) ?_ | refine j_iinc C dX7_form_35 rfl rfl (by decide) ?_
          refine j_goto (tgt := 14) C dX7_form_38 (by decide) ?_
          exact ih_lp (k + 1) _ (by omega) (by omega) (fun q hq => by rw [up2_ne _ hq]; exact hA q hq) (fun q hq => by rw [up2_at, if_pos rfl, if_neg (by omega)]; exact hB q (by omega)) (fun b hb => by rw [up2_at, if_pos rfl]; by_cases e : b = k; (rw [if_pos (by omega)]; rfl); (rw [if_neg (by omega)]; exact hC b (by omega)))
    exact lp 26 0 I (by omega) (by omega) (fun _ _ => rfl) (fun _ _ => rfl) (fun b hb => by omega)
  · refine j_bipush (v := (-3)) C dX7_form_9 (by decide) ?_
    exact j_iret C hr dX7_form_11 (by unfold formR formS; rw [if_neg (by omega), if_neg (by omega)]; exact ⟨rfl, hRM⟩)

theorem in_t {v : Int32} : decide ((-1000000 : Int64) ≤ v.toInt64 ∧ v.toInt64 ≤ 1000000) = decide (¬ v < -1000000 ∧ v ≤ 1000000) := by
  apply decide_eq_decide.mpr
  rw [Int64.le_iff_toInt_le, Int64.le_iff_toInt_le, Int32.toInt_toInt64, Int32.lt_iff_toInt_lt, Int32.le_iff_toInt_le, show (-1000000 : Int64).toInt = -1000000 by decide, show (1000000 : Int64).toInt = 1000000 by decide, show (-1000000 : Int32).toInt = -1000000 by decide, show (1000000 : Int32).toInt = 1000000 by decide]
  omega
set_option maxHeartbeats 4000000 in
set_option maxRecDepth 20000 in
theorem c_X7_term (l : Launch) (G : GT) (rg : RgT) (I : II) (L : LL) (A : AS) (f i j v : Int32) (hms : isMS rg) (hRM : RM A I L) (hok : aok A) : CtI l yX7_term cX7_term 7 (some FieldType.int) 8 G rg I L [.ref (gB G + 0), .int f, .int i, .int j, .int v] (fun r I1 L1 => r = termR A f i j v ∧ RM (termS A f i j v) I1 L1) := by
  refine ctI_of [some (.ref (gB G + 0)), some (.int f), some (.int i), some (.int j), some (.int v), none, none] rfl (Nat.le_of_ble_eq_true rfl) (by decide) ?_
  intro p e s m args below meth c C hr
  obtain ⟨o0, a1, a2, a3, a4, a5, a6, a7, a8, a9, a10, a11, a12, a13, a14, a15, a16, a17, a18, a19, a20, a21, a22, a23, a24, a25, a26⟩ := id hms
  obtain ⟨mN, mF, mP, mV, mA, mS, mT, mH, m8, m7, mX, mE⟩ := id hRM
  obtain ⟨k1, k4, k12, kT, kT0, kP⟩ := id hok
  refine j_aload_n C dX7_term_0 rfl rfl ?_
  refine j_iload_n C dX7_term_1 rfl rfl ?_
  refine g_cvI C vc_X7_116 (c_X7_isForm l G rg _ _ (aF A) f hms mF (by omega)) ⟨Nat.le_of_ble_eq_true rfl, Nat.le_of_ble_eq_true rfl⟩ (o0) rfl rfl (Nat.le_of_ble_eq_true rfl) ⟨Nat.zero_le _, Nat.zero_le _⟩ dX7_term_2 (fun r_2 I_2 L_2 p_2 => ?_)
  obtain ⟨rfl, rfl, rfl⟩ := p_2
  first | refine n_if_eq (tgt := 54) C dX7_term_5 (by decide) (fun h_5 => ?_) (fun h_5 => ?_) | refine j_if_eq (tgt := 54) C dX7_term_5 (by decide) (fun h_5 => ?_) (fun h_5 => ?_)
  · refine j_ldc C kc_X7_124 dX7_term_54 ?_
    exact j_iret C hr dX7_term_56 (by have hb : ¬ termOk A f i j v := (by first | exact tb1 h_5 | exact tb2 h_20 | exact tb3 h_35 | exact (fun q => of_decide_eq_false h_51 q.2.2.2)); unfold termR termS; rw [cif_f hb, cif_f hb]; exact ⟨rfl, hRM⟩)
  · refine j_aload_n C dX7_term_8 rfl rfl ?_
    refine j_iload_n C dX7_term_9 rfl rfl ?_
    refine j_i2l C dX7_term_10 ?_
    refine j_lconst (v := 0) C dX7_term_11 (by decide) ?_
    refine j_aload_n C dX7_term_12 rfl rfl ?_
    refine g_getI C (o0) fl_X7_7 (by rfl) dX7_term_13 ?_
    refine t_i mN ?_
    refine j_i2l C dX7_term_16 ?_
    refine g_cvI C vc_X7_100 (c_X7_isIn l G rg _ _ _ _ _) ⟨Nat.le_of_ble_eq_true rfl, Nat.le_of_ble_eq_true rfl⟩ (o0) rfl rfl (Nat.le_of_ble_eq_true rfl) ⟨Nat.zero_le _, Nat.zero_le _⟩ dX7_term_17 (fun r_17 I_17 L_17 p_17 => ?_)
    obtain ⟨rfl, rfl, rfl⟩ := p_17
    refine t_i (congrArg b2i (in_I (by omega))) ?_
    first | refine n_if_eq (tgt := 54) C dX7_term_20 (by decide) (fun h_20 => ?_) (fun h_20 => ?_) | refine j_if_eq (tgt := 54) C dX7_term_20 (by decide) (fun h_20 => ?_) (fun h_20 => ?_)
    · refine j_ldc C kc_X7_124 dX7_term_54 ?_
      exact j_iret C hr dX7_term_56 (by have hb : ¬ termOk A f i j v := (by first | exact tb1 h_5 | exact tb2 h_20 | exact tb3 h_35 | exact (fun q => of_decide_eq_false h_51 q.2.2.2)); unfold termR termS; rw [cif_f hb, cif_f hb]; exact ⟨rfl, hRM⟩)
    · refine j_aload_n C dX7_term_23 rfl rfl ?_
      refine j_iload_n C dX7_term_24 rfl rfl ?_
      refine j_i2l C dX7_term_25 ?_
      refine j_lconst (v := 0) C dX7_term_26 (by decide) ?_
      refine j_aload_n C dX7_term_27 rfl rfl ?_
      refine g_getI C (o0) fl_X7_7 (by rfl) dX7_term_28 ?_
      refine t_i mN ?_
      refine j_i2l C dX7_term_31 ?_
      refine g_cvI C vc_X7_100 (c_X7_isIn l G rg _ _ _ _ _) ⟨Nat.le_of_ble_eq_true rfl, Nat.le_of_ble_eq_true rfl⟩ (o0) rfl rfl (Nat.le_of_ble_eq_true rfl) ⟨Nat.zero_le _, Nat.zero_le _⟩ dX7_term_32 (fun r_32 I_32 L_32 p_32 => ?_)
      obtain ⟨rfl, rfl, rfl⟩ := p_32
      refine t_i (congrArg b2i (in_I (by omega))) ?_
      first | refine n_if_eq (tgt := 54) C dX7_term_35 (by decide) (fun h_35 => ?_) (fun h_35 => ?_) | refine j_if_eq (tgt := 54) C dX7_term_35 (by decide) (fun h_35 => ?_) (fun h_35 => ?_)
      · refine j_ldc C kc_X7_124 dX7_term_54 ?_
        exact j_iret C hr dX7_term_56 (by have hb : ¬ termOk A f i j v := (by first | exact tb1 h_5 | exact tb2 h_20 | exact tb3 h_35 | exact (fun q => of_decide_eq_false h_51 q.2.2.2)); unfold termR termS; rw [cif_f hb, cif_f hb]; exact ⟨rfl, hRM⟩)
      · refine j_aload_n C dX7_term_38 rfl rfl ?_
        refine j_iload C dX7_term_39 rfl ?_
        refine j_i2l C dX7_term_41 ?_
        refine j_ldc2 C kc_X7_120 dX7_term_42 ?_
        refine j_ldc2 C kc_X7_122 dX7_term_45 ?_
        refine g_cvI C vc_X7_100 (c_X7_isIn l G rg _ _ _ _ _) ⟨Nat.le_of_ble_eq_true rfl, Nat.le_of_ble_eq_true rfl⟩ (o0) rfl rfl (Nat.le_of_ble_eq_true rfl) ⟨Nat.zero_le _, Nat.zero_le _⟩ dX7_term_48 (fun r_48 I_48 L_48 p_48 => ?_)
        obtain ⟨rfl, rfl, rfl⟩ := p_48
        refine t_i (congrArg b2i in_t) ?_
        first | refine n_if_ne (tgt := 57) C dX7_term_51 (by decide) (fun h_51 => ?_) (fun h_51 => ?_) | refine j_if_ne (tgt := 57) C dX7_term_51 (by decide) (fun h_51 => ?_) (fun h_51 => ?_)
        · have hb : termOk A f i j v := ⟨h_5, h_20, h_35, of_decide_eq_true h_51⟩
          obtain ⟨hf, hfn⟩ := okF_t h_5
          obtain ⟨hi, hin⟩ := okI_t h_20
          obtain ⟨hj, hjn⟩ := okI_t h_35
          have htr : termR A f i j v = aV A f.toNatClampNeg (ix i.toNatClampNeg j.toNatClampNeg) := cif_t hb
          have hts : termS A f i j v = (aN A, aF A, aP A, up2 (aV A) f.toNatClampNeg (ix i.toNatClampNeg j.toNatClampNeg) v, A.2.2.2.2) := cif_t hb
          obtain ⟨fn, hfe⟩ : ∃ g, g = f.toNatClampNeg := ⟨_, rfl⟩
          obtain ⟨iN, hie⟩ : ∃ g, g = i.toNatClampNeg := ⟨_, rfl⟩
          obtain ⟨jn, hje⟩ : ∃ g, g = j.toNatClampNeg := ⟨_, rfl⟩
          rw [← hfe] at hf hfn htr hts
          rw [← hie] at hi hin htr hts
          rw [← hje] at hj hjn htr hts
          have hix := ix_lt (show iN < 5 by omega) (show jn < 5 by omega)
          refine j_bipush (v := nI 25) C dX7_term_57 (by decide) ?_
          refine j_iload_n C dX7_term_59 rfl rfl ?_
          refine t_i hf ?_
          first | refine n_imul C dX7_term_60 ?_ | refine j_imul C dX7_term_60 ?_
          refine j_aload_n C dX7_term_61 rfl rfl ?_
          refine j_iload_n C dX7_term_62 rfl rfl ?_
          refine t_i hi ?_
          refine j_iload_n C dX7_term_63 rfl rfl ?_
          refine t_i hj ?_
          refine g_cvI C vc_X7_125 (c_X7_at l G rg _ _ iN jn (by omega) (by omega)) ⟨Nat.le_of_ble_eq_true rfl, Nat.le_of_ble_eq_true rfl⟩ (o0) rfl rfl (Nat.le_of_ble_eq_true rfl) ⟨Nat.zero_le _, Nat.zero_le _⟩ dX7_term_64 (fun r_64 I_64 L_64 p_64 => ?_)
          obtain ⟨rfl, rfl, rfl⟩ := p_64
          first | refine n_iadd C dX7_term_67 ?_ | refine j_iadd C dX7_term_67 ?_
          refine j_istore C dX7_term_68 (by decide) ?_
          refine j_aload_n C dX7_term_70 rfl rfl ?_
          refine g_getR C (o0) fl_X7_13 (by rfl) dX7_term_71 ?_
          refine j_iload C dX7_term_74 rfl ?_
          refine g_iald C (a1) (by omega) (by decide) dX7_term_76 ?_
          refine t_i (mV fn _ (by omega) hix) ?_
          refine j_istore C dX7_term_77 (by decide) ?_
          refine j_aload_n C dX7_term_79 rfl rfl ?_
          refine g_getR C (o0) fl_X7_13 (by rfl) dX7_term_80 ?_
          refine j_iload C dX7_term_83 rfl ?_
          refine j_iload C dX7_term_85 rfl ?_
          refine g_iast C (a1) (by omega) (by decide) dX7_term_87 ?_
          refine j_iload C dX7_term_88 rfl ?_
          refine j_iret C hr dX7_term_90 ⟨htr.symm, ?_⟩
          rw [hts]
          refine ⟨by rw [up2_ne _ (by decide)]; exact mN, by rw [up2_ne _ (by decide)]; exact mF, by rw [up2_ne _ (by decide)]; exact mP, fun f k hf hk => ?_, by rw [up2_ne _ (by decide)]; exact mA, by rw [up2_ne _ (by decide)]; exact mS, by rw [up2_ne _ (by decide)]; exact mT, by rw [up2_ne _ (by decide)]; exact mH, by rw [up2_ne _ (by decide)]; exact m8, by rw [up2_ne _ (by decide)]; exact m7, mX, fun q => ⟨(mE q).1.cong (up2_ne _ (by decide)) (up2_ne _ (by decide)) (up2_ne _ (by decide)) (fun _ _ _ => rfl), (mE q).2⟩⟩
          show _ = up2 (aV A) fn (ix iN jn) v f k
          rw [up2_at, up2_at, if_pos rfl]
          by_cases e : f = fn
          · by_cases e2 : k = ix iN jn
            · rw [if_pos (by rw [e, e2]), if_pos e, if_pos e2]
            · rw [if_neg (by omega), if_pos e, if_neg e2, mV f k hf hk, e]
          · rw [if_neg (by omega), if_neg e]; exact mV f k hf hk
        · refine j_ldc C kc_X7_124 dX7_term_54 ?_
          exact j_iret C hr dX7_term_56 (by have hb : ¬ termOk A f i j v := (by first | exact tb1 h_5 | exact tb2 h_20 | exact tb3 h_35 | exact (fun q => of_decide_eq_false h_51 q.2.2.2)); unfold termR termS; rw [cif_f hb, cif_f hb]; exact ⟨rfl, hRM⟩)
