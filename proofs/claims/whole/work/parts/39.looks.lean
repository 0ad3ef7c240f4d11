/-! ===== the model: what only looks ===== -/
theorem in_I {x : Int32} {n : Nat} (hn : n < 2 ^ 20) : decide ((0 : Int64) ≤ x.toInt64 ∧ x.toInt64 ≤ (nI n).toInt64) = okI x n := by
  unfold okI
  apply decide_eq_decide.mpr
  rw [Int64.le_iff_toInt_le, Int64.le_iff_toInt_le, Int32.toInt_toInt64, Int32.toInt_toInt64, i64_0, nI_toInt (by omega)]
theorem i32_e {x y : Int32} : x = y ↔ x.toInt = y.toInt := ⟨fun h => by rw [h], fun h => Int32.toInt_inj.mp h⟩
theorem in_P {y : Int32} : decide ((0 : Int64) ≤ y.toInt64 ∧ y.toInt64 ≤ 1) = okP y := by
  unfold okP
  apply decide_eq_decide.mpr
  rw [Int64.le_iff_toInt_le, Int64.le_iff_toInt_le, Int32.toInt_toInt64, i64_0, i32_e, i32_e, i32_0, show (1 : Int64).toInt = 1 by decide, show (1 : Int32).toInt = 1 by decide]
  omega
theorem in_1 {k : Int32} {n : Nat} (hn : n < 2 ^ 20) : decide ((1 : Int64) ≤ k.toInt64 ∧ k.toInt64 ≤ (nI n).toInt64) = decide (¬ k = 0 ∧ okI k n = true) := by
  apply decide_eq_decide.mpr
  unfold okI
  rw [Int64.le_iff_toInt_le, Int64.le_iff_toInt_le, Int32.toInt_toInt64, Int32.toInt_toInt64, nI_toInt (by omega), i32_e, i32_0, show (1 : Int64).toInt = 1 by decide, decide_eq_true_iff]
  omega
theorem aT1 {A : AS} (h : aok A) : ∃ S, S ≤ 5 ∧ aT A 1 = nI S := by
  by_cases e : aT A 0 = 1
  · obtain ⟨_, _, h1, h2⟩ := h.2.2.2.1 e; exact ⟨_, h2, h1⟩
  · exact ⟨0, by omega, h.2.2.2.2.1 e⟩
theorem in_S {A : AS} {x : Int32} (h : aok A) : decide ((0 : Int64) ≤ x.toInt64 ∧ x.toInt64 ≤ (aT A 1 - nI 1).toInt64) = okS A x := by
  obtain ⟨S, h1, h2⟩ := aT1 h
  unfold okS
  rw [h2]
  apply decide_eq_decide.mpr
  rw [Int64.le_iff_toInt_le, Int64.le_iff_toInt_le, Int32.toInt_toInt64, Int32.toInt_toInt64, i64_0, dI_i (by omega), Int32.lt_iff_toInt_lt, Int32.le_iff_toInt_le, nI_toInt (by omega), i32_0]
  omega
theorem in_7 {x : Int32} : decide ((0 : Int64) ≤ x.toInt64 ∧ x.toInt64 ≤ 6) = decide (¬ (x < 0 ∨ ¬ x < 7)) := by
  apply decide_eq_decide.mpr
  rw [Int64.le_iff_toInt_le, Int64.le_iff_toInt_le, Int32.toInt_toInt64, i64_0, Int32.lt_iff_toInt_lt, Int32.lt_iff_toInt_lt, i32_0, show (6 : Int64).toInt = 6 by decide, show (7 : Int32).toInt = 7 by decide]
  omega
set_option maxHeartbeats 4000000 in
set_option maxRecDepth 20000 in
theorem c_X7_pivot (l : Launch) (G : GT) (rg : RgT) (I : II) (L : LL) (a b : Int64)  : CtL l yX7_pivot cX7_pivot 5 (some FieldType.long) 8 G rg I L [.ref (gB G + 0), .long a, .long b] (fun r I1 L1 => r = (if b = 0 then -30 else a / b) ∧ I = I1 ∧ L = L1) := by
  refine ctL_of [some (.ref (gB G + 0)), some (.long a), none, some (.long b), none] rfl (Nat.le_of_ble_eq_true rfl) (by decide) ?_
  intro p e s m args below meth c C hr
  refine j_lload_n C dX7_pivot_0 rfl rfl ?_
  refine j_lconst (v := 0) C dX7_pivot_1 (by decide) ?_
  refine j_lc_ne (tgt := 12) C dX7_pivot_2 dX7_pivot_3 (by decide) (fun h_3 => ?_) (fun h_3 => ?_)
  · refine j_lload_n C dX7_pivot_12 rfl rfl ?_
    refine j_lload_n C dX7_pivot_13 rfl rfl ?_
    refine j_ldiv C dX7_pivot_14 (h_3) ?_
    exact j_lret C hr dX7_pivot_15 (⟨by simp [h_3], rfl, rfl⟩)
  · refine j_ldc2 C kc_X7_290 dX7_pivot_6 ?_
    refine j_goto (tgt := 15) C dX7_pivot_9 (by decide) ?_
    exact j_lret C hr dX7_pivot_15 (⟨by simp [h_3], rfl, rfl⟩)

set_option maxHeartbeats 4000000 in
set_option maxRecDepth 20000 in
theorem c_X7_count (l : Launch) (G : GT) (rg : RgT) (I : II) (L : LL) (A : AS) (x : Int32) (hms : isMS rg) (hRM : RM A I L) (hok : aok A) : CtI l yX7_count cX7_count 2 (some FieldType.int) 8 G rg I L [.ref (gB G + 0), .int x] (fun r I1 L1 => r = countR A x ∧ I = I1 ∧ L = L1) := by
  refine ctI_of [some (.ref (gB G + 0)), some (.int x)] rfl (Nat.le_of_ble_eq_true rfl) (by decide) ?_
  intro p e s m args below meth c C hr
  obtain ⟨o0, a1, a2, a3, a4, a5, a6, a7, a8, a9, a10, a11, a12, a13, a14, a15, a16, a17, a18, a19, a20, a21, a22, a23, a24, a25, a26⟩ := id hms
  obtain ⟨mN, mF, mP, mV, mA, mS, mT, mH, m8, m7, mX, mE⟩ := id hRM
  obtain ⟨k1, k4, k12, kT, kT0, kP⟩ := id hok
  refine j_iload_n C dX7_count_0 rfl rfl ?_
  refine j_if_ne (tgt := 11) C dX7_count_1 (by decide) (fun h_1 => ?_) (fun h_1 => ?_)
  · refine j_iload_n C dX7_count_11 rfl rfl ?_
    refine j_iconst (v := (1)) C dX7_count_12 (by decide) ?_
    refine j_icmp_ne (tgt := 23) C dX7_count_13 (by decide) (fun h_13 => ?_) (fun h_13 => ?_)
    · refine j_iload_n C dX7_count_23 rfl rfl ?_
      refine j_iconst (v := (2)) C dX7_count_24 (by decide) ?_
      refine j_icmp_ne (tgt := 35) C dX7_count_25 (by decide) (fun h_25 => ?_) (fun h_25 => ?_)
      · refine j_iconst (v := (-1)) C dX7_count_35 (by decide) ?_
        exact j_iret C hr dX7_count_36 (by refine ⟨?_, rfl, rfl⟩; unfold countR; first | (rw [if_pos h_1]; done) | (rw [if_neg h_1, if_pos h_13]; done) | (rw [if_neg h_1, if_neg h_13, if_pos h_25]; done) | (rw [if_neg h_1, if_neg h_13, if_neg h_25]; done))
      · refine j_aload_n C dX7_count_28 rfl rfl ?_
        refine g_getI C (o0) fl_X7_106 (by rfl) dX7_count_29 ?_
        refine t_i mP ?_
        refine j_goto (tgt := 36) C dX7_count_32 (by decide) ?_
        exact j_iret C hr dX7_count_36 (by refine ⟨?_, rfl, rfl⟩; unfold countR; first | (rw [if_pos h_1]; done) | (rw [if_neg h_1, if_pos h_13]; done) | (rw [if_neg h_1, if_neg h_13, if_pos h_25]; done) | (rw [if_neg h_1, if_neg h_13, if_neg h_25]; done))
    · refine j_aload_n C dX7_count_16 rfl rfl ?_
      refine g_getI C (o0) fl_X7_97 (by rfl) dX7_count_17 ?_
      refine t_i mF ?_
      refine j_goto (tgt := 36) C dX7_count_20 (by decide) ?_
      exact j_iret C hr dX7_count_36 (by refine ⟨?_, rfl, rfl⟩; unfold countR; first | (rw [if_pos h_1]; done) | (rw [if_neg h_1, if_pos h_13]; done) | (rw [if_neg h_1, if_neg h_13, if_pos h_25]; done) | (rw [if_neg h_1, if_neg h_13, if_neg h_25]; done))
  · refine j_aload_n C dX7_count_4 rfl rfl ?_
    refine g_getI C (o0) fl_X7_7 (by rfl) dX7_count_5 ?_
    refine t_i mN ?_
    refine j_goto (tgt := 36) C dX7_count_8 (by decide) ?_
    exact j_iret C hr dX7_count_36 (by refine ⟨?_, rfl, rfl⟩; unfold countR; first | (rw [if_pos h_1]; done) | (rw [if_neg h_1, if_pos h_13]; done) | (rw [if_neg h_1, if_neg h_13, if_pos h_25]; done) | (rw [if_neg h_1, if_neg h_13, if_neg h_25]; done))

set_option maxHeartbeats 4000000 in
set_option maxRecDepth 20000 in
theorem c_X7_isSquare (l : Launch) (G : GT) (rg : RgT) (I : II) (L : LL) (A : AS) (x : Int32) (hms : isMS rg) (hRM : RM A I L) (hok : aok A) : CtI l yX7_isSquare cX7_isSquare 2 (some FieldType.boolean) 2 G rg I L [.ref (gB G + 0), .int x] (fun r I1 L1 => r = b2i (okS A x) ∧ I = I1 ∧ L = L1) := by
  refine ctI_of [some (.ref (gB G + 0)), some (.int x)] rfl (Nat.le_of_ble_eq_true rfl) (by decide) ?_
  intro p e s m args below meth c C hr
  obtain ⟨o0, a1, a2, a3, a4, a5, a6, a7, a8, a9, a10, a11, a12, a13, a14, a15, a16, a17, a18, a19, a20, a21, a22, a23, a24, a25, a26⟩ := id hms
  obtain ⟨mN, mF, mP, mV, mA, mS, mT, mH, m8, m7, mX, mE⟩ := id hRM
  obtain ⟨k1, k4, k12, kT, kT0, kP⟩ := id hok
  refine j_aload_n C dX7_isSquare_0 rfl rfl ?_
  refine j_iload_n C dX7_isSquare_1 rfl rfl ?_
  refine j_i2l C dX7_isSquare_2 ?_
  refine j_lconst (v := 0) C dX7_isSquare_3 (by decide) ?_
  refine j_aload_n C dX7_isSquare_4 rfl rfl ?_
  refine g_getI C (o0) fl_X7_109 (by rfl) dX7_isSquare_5 ?_
  refine t_i mS ?_
  refine j_iconst (v := nI 1) C dX7_isSquare_8 (by decide) ?_
  refine j_isub C dX7_isSquare_9 ?_
  refine j_i2l C dX7_isSquare_10 ?_
  refine g_cvI C vc_X7_100 (c_X7_isIn l G rg _ _ _ _ _) ⟨Nat.le_of_ble_eq_true rfl, Nat.le_of_ble_eq_true rfl⟩ (o0) rfl rfl (Nat.le_of_ble_eq_true rfl) ⟨Nat.zero_le _, Nat.zero_le _⟩ dX7_isSquare_11 (fun r_11 I_11 L_11 p_11 => ?_)
  obtain ⟨rfl, rfl, rfl⟩ := p_11
  exact j_zret C hr (b2i_n _ rfl) dX7_isSquare_14 (⟨congrArg b2i (in_S hok), rfl, rfl⟩)

set_option maxHeartbeats 4000000 in
set_option maxRecDepth 20000 in
theorem c_X7_weight (l : Launch) (G : GT) (rg : RgT) (I : II) (L : LL) (A : AS) (x y : Int32) (hms : isMS rg) (hRM : RM A I L) (hok : aok A) : CtL l yX7_weight cX7_weight 3 (some FieldType.long) 8 G rg I L [.ref (gB G + 0), .int x, .int y] (fun r I1 L1 => r = weightR A x y ∧ I = I1 ∧ L = L1) := by
  refine ctL_of [some (.ref (gB G + 0)), some (.int x), some (.int y)] rfl (Nat.le_of_ble_eq_true rfl) (by decide) ?_
  intro p e s m args below meth c C hr
  obtain ⟨o0, a1, a2, a3, a4, a5, a6, a7, a8, a9, a10, a11, a12, a13, a14, a15, a16, a17, a18, a19, a20, a21, a22, a23, a24, a25, a26⟩ := id hms
  obtain ⟨mN, mF, mP, mV, mA, mS, mT, mH, m8, m7, mX, mE⟩ := id hRM
  obtain ⟨k1, k4, k12, kT, kT0, kP⟩ := id hok
  refine j_aload_n C dX7_weight_0 rfl rfl ?_
  refine j_iload_n C dX7_weight_1 rfl rfl ?_
  refine g_cvI C vc_X7_281 (c_X7_isSquare l G rg _ _ A x hms hRM hok) ⟨Nat.le_of_ble_eq_true rfl, Nat.le_of_ble_eq_true rfl⟩ (o0) rfl rfl (Nat.le_of_ble_eq_true rfl) ⟨Nat.zero_le _, Nat.zero_le _⟩ dX7_weight_2 (fun r_2 I_2 L_2 p_2 => ?_)
  obtain ⟨rfl, rfl, rfl⟩ := p_2
  first | refine n_if_eq (tgt := 19) C dX7_weight_5 (by decide) (fun h_5 => ?_) (fun h_5 => ?_) | refine j_if_eq (tgt := 19) C dX7_weight_5 (by decide) (fun h_5 => ?_) (fun h_5 => ?_)
  · refine j_lconst (v := 0) C dX7_weight_19 (by decide) ?_
    refine j_goto (tgt := 42) C dX7_weight_20 (by decide) ?_
    exact j_lret C hr dX7_weight_42 (by refine ⟨?_, rfl, rfl⟩; unfold weightR; first | (rw [if_pos ⟨h_5, h_16⟩, if_pos h_24, ← hxse]; done) | (rw [if_pos ⟨h_5, h_16⟩, if_neg h_24, ← hxse]; done) | (rw [if_neg (bff h_5)]; done) | (rw [if_neg (bff2 h_16)]; done))
  · refine j_aload_n C dX7_weight_8 rfl rfl ?_
    refine j_iload_n C dX7_weight_9 rfl rfl ?_
    refine j_i2l C dX7_weight_10 ?_
    refine j_lconst (v := 0) C dX7_weight_11 (by decide) ?_
    refine j_lconst (v := 1) C dX7_weight_12 (by decide) ?_
    refine g_cvI C vc_X7_100 (c_X7_isIn l G rg _ _ _ _ _) ⟨Nat.le_of_ble_eq_true rfl, Nat.le_of_ble_eq_true rfl⟩ (o0) rfl rfl (Nat.le_of_ble_eq_true rfl) ⟨Nat.zero_le _, Nat.zero_le _⟩ dX7_weight_13 (fun r_13 I_13 L_13 p_13 => ?_)
    obtain ⟨rfl, rfl, rfl⟩ := p_13
    refine t_i (congrArg b2i in_P) ?_
    first | refine n_if_ne (tgt := 23) C dX7_weight_16 (by decide) (fun h_16 => ?_) (fun h_16 => ?_) | refine j_if_ne (tgt := 23) C dX7_weight_16 (by decide) (fun h_16 => ?_) (fun h_16 => ?_)
    · obtain ⟨hxe, h01, hxs, hs5⟩ := okS_t hok h_5
      obtain ⟨hRX, hFi⟩ := mE h01
      obtain ⟨xs, hxse⟩ : ∃ g, g = x.toNatClampNeg := ⟨_, rfl⟩
      rw [← hxse] at hxe hxs
      have hq := hRX.2 xs hxs
      refine j_iload_n C dX7_weight_23 rfl rfl ?_
      refine j_if_ne (tgt := 36) C dX7_weight_24 (by decide) (fun h_24 => ?_) (fun h_24 => ?_)
      · refine j_aload_n C dX7_weight_36 rfl rfl ?_
        refine g_getR C (o0) fl_X7_43 (by rfl) dX7_weight_37 ?_
        refine j_iload_n C dX7_weight_40 rfl rfl ?_
        refine t_i hxe ?_
        refine g_lald C (a10) (by omega) (by decide) dX7_weight_41 ?_
        refine t_l (congrArg Prod.snd hq.2.1) ?_
        exact j_lret C hr dX7_weight_42 (by refine ⟨?_, rfl, rfl⟩; unfold weightR; first | (rw [if_pos ⟨h_5, h_16⟩, if_pos h_24, ← hxse]; done) | (rw [if_pos ⟨h_5, h_16⟩, if_neg h_24, ← hxse]; done) | (rw [if_neg (bff h_5)]; done) | (rw [if_neg (bff2 h_16)]; done))
      · refine j_aload_n C dX7_weight_27 rfl rfl ?_
        refine g_getR C (o0) fl_X7_40 (by rfl) dX7_weight_28 ?_
        refine j_iload_n C dX7_weight_31 rfl rfl ?_
        refine t_i hxe ?_
        refine g_lald C (a9) (by omega) (by decide) dX7_weight_32 ?_
        refine t_l (congrArg Prod.fst hq.2.1) ?_
        refine j_goto (tgt := 42) C dX7_weight_33 (by decide) ?_
        exact j_lret C hr dX7_weight_42 (by refine ⟨?_, rfl, rfl⟩; unfold weightR; first | (rw [if_pos ⟨h_5, h_16⟩, if_pos h_24, ← hxse]; done) | (rw [if_pos ⟨h_5, h_16⟩, if_neg h_24, ← hxse]; done) | (rw [if_neg (bff h_5)]; done) | (rw [if_neg (bff2 h_16)]; done))
    · refine j_lconst (v := 0) C dX7_weight_19 (by decide) ?_
      refine j_goto (tgt := 42) C dX7_weight_20 (by decide) ?_
      exact j_lret C hr dX7_weight_42 (by refine ⟨?_, rfl, rfl⟩; unfold weightR; first | (rw [if_pos ⟨h_5, h_16⟩, if_pos h_24, ← hxse]; done) | (rw [if_pos ⟨h_5, h_16⟩, if_neg h_24, ← hxse]; done) | (rw [if_neg (bff h_5)]; done) | (rw [if_neg (bff2 h_16)]; done))

set_option maxHeartbeats 4000000 in
set_option maxRecDepth 20000 in
theorem c_X7_line (l : Launch) (G : GT) (rg : RgT) (I : II) (L : LL) (A : AS) (x k y : Int32) (hms : isMS rg) (hRM : RM A I L) (hok : aok A) : CtL l yX7_line cX7_line 4 (some FieldType.long) 8 G rg I L [.ref (gB G + 0), .int x, .int k, .int y] (fun r I1 L1 => r = lineR A x k y ∧ I = I1 ∧ L = L1) := by
  refine ctL_of [some (.ref (gB G + 0)), some (.int x), some (.int k), some (.int y)] rfl (Nat.le_of_ble_eq_true rfl) (by decide) ?_
  intro p e s m args below meth c C hr
  obtain ⟨o0, a1, a2, a3, a4, a5, a6, a7, a8, a9, a10, a11, a12, a13, a14, a15, a16, a17, a18, a19, a20, a21, a22, a23, a24, a25, a26⟩ := id hms
  obtain ⟨mN, mF, mP, mV, mA, mS, mT, mH, m8, m7, mX, mE⟩ := id hRM
  obtain ⟨k1, k4, k12, kT, kT0, kP⟩ := id hok
  refine j_aload_n C dX7_line_0 rfl rfl ?_
  refine j_iload_n C dX7_line_1 rfl rfl ?_
  refine g_cvI C vc_X7_281 (c_X7_isSquare l G rg _ _ A x hms hRM hok) ⟨Nat.le_of_ble_eq_true rfl, Nat.le_of_ble_eq_true rfl⟩ (o0) rfl rfl (Nat.le_of_ble_eq_true rfl) ⟨Nat.zero_le _, Nat.zero_le _⟩ dX7_line_2 (fun r_2 I_2 L_2 p_2 => ?_)
  obtain ⟨rfl, rfl, rfl⟩ := p_2
  first | refine n_if_eq (tgt := 34) C dX7_line_5 (by decide) (fun h_5 => ?_) (fun h_5 => ?_) | refine j_if_eq (tgt := 34) C dX7_line_5 (by decide) (fun h_5 => ?_) (fun h_5 => ?_)
  · refine j_lconst (v := 0) C dX7_line_34 (by decide) ?_
    exact j_lret C hr dX7_line_35 (by refine ⟨?_, rfl, rfl⟩; unfold lineR; first | (rw [if_pos ⟨h_5, h_20, h_31⟩, if_pos h_37, ← hxse, ← hkse]; done) | (rw [if_pos ⟨h_5, h_20, h_31⟩, if_neg h_37, ← hxse, ← hkse]; done) | (rw [if_neg (bff h_5)]; done) | (rw [if_neg (bff3 h_20)]; done) | (rw [if_neg (bff4 h_31)]; done))
  · refine j_aload_n C dX7_line_8 rfl rfl ?_
    refine j_iload_n C dX7_line_9 rfl rfl ?_
    refine j_i2l C dX7_line_10 ?_
    refine j_lconst (v := 0) C dX7_line_11 (by decide) ?_
    refine j_aload_n C dX7_line_12 rfl rfl ?_
    refine g_getI C (o0) fl_X7_7 (by rfl) dX7_line_13 ?_
    refine t_i mN ?_
    refine j_i2l C dX7_line_16 ?_
    refine g_cvI C vc_X7_100 (c_X7_isIn l G rg _ _ _ _ _) ⟨Nat.le_of_ble_eq_true rfl, Nat.le_of_ble_eq_true rfl⟩ (o0) rfl rfl (Nat.le_of_ble_eq_true rfl) ⟨Nat.zero_le _, Nat.zero_le _⟩ dX7_line_17 (fun r_17 I_17 L_17 p_17 => ?_)
    obtain ⟨rfl, rfl, rfl⟩ := p_17
    refine t_i (congrArg b2i (in_I (by omega))) ?_
    first | refine n_if_eq (tgt := 34) C dX7_line_20 (by decide) (fun h_20 => ?_) (fun h_20 => ?_) | refine j_if_eq (tgt := 34) C dX7_line_20 (by decide) (fun h_20 => ?_) (fun h_20 => ?_)
    · refine j_lconst (v := 0) C dX7_line_34 (by decide) ?_
      exact j_lret C hr dX7_line_35 (by refine ⟨?_, rfl, rfl⟩; unfold lineR; first | (rw [if_pos ⟨h_5, h_20, h_31⟩, if_pos h_37, ← hxse, ← hkse]; done) | (rw [if_pos ⟨h_5, h_20, h_31⟩, if_neg h_37, ← hxse, ← hkse]; done) | (rw [if_neg (bff h_5)]; done) | (rw [if_neg (bff3 h_20)]; done) | (rw [if_neg (bff4 h_31)]; done))
    · refine j_aload_n C dX7_line_23 rfl rfl ?_
      refine j_iload_n C dX7_line_24 rfl rfl ?_
      refine j_i2l C dX7_line_25 ?_
      refine j_lconst (v := 0) C dX7_line_26 (by decide) ?_
      refine j_lconst (v := 1) C dX7_line_27 (by decide) ?_
      refine g_cvI C vc_X7_100 (c_X7_isIn l G rg _ _ _ _ _) ⟨Nat.le_of_ble_eq_true rfl, Nat.le_of_ble_eq_true rfl⟩ (o0) rfl rfl (Nat.le_of_ble_eq_true rfl) ⟨Nat.zero_le _, Nat.zero_le _⟩ dX7_line_28 (fun r_28 I_28 L_28 p_28 => ?_)
      obtain ⟨rfl, rfl, rfl⟩ := p_28
      refine t_i (congrArg b2i in_P) ?_
      first | refine n_if_ne (tgt := 36) C dX7_line_31 (by decide) (fun h_31 => ?_) (fun h_31 => ?_) | refine j_if_ne (tgt := 36) C dX7_line_31 (by decide) (fun h_31 => ?_) (fun h_31 => ?_)
      · obtain ⟨hxe, h01, hxs, hs5⟩ := okS_t hok h_5
        obtain ⟨hRX, hFi⟩ := mE h01
        obtain ⟨xs, hxse⟩ : ∃ g, g = x.toNatClampNeg := ⟨_, rfl⟩
        rw [← hxse] at hxe hxs
        have hq := hRX.2 xs hxs
        obtain ⟨hke, hkn⟩ := okI_t h_20
        obtain ⟨ks, hkse⟩ : ∃ g, g = k.toNatClampNeg := ⟨_, rfl⟩
        rw [← hkse] at hke hkn
        refine j_iload_n C dX7_line_36 rfl rfl ?_
        refine j_if_ne (tgt := 53) C dX7_line_37 (by decide) (fun h_37 => ?_) (fun h_37 => ?_)
        · refine j_aload_n C dX7_line_53 rfl rfl ?_
          refine g_getR C (o0) fl_X7_49 (by rfl) dX7_line_54 ?_
          refine j_iconst (v := nI 5) C dX7_line_57 (by decide) ?_
          refine j_iload_n C dX7_line_58 rfl rfl ?_
          refine t_i hxe ?_
          first | refine n_imul C dX7_line_59 ?_ | refine j_imul C dX7_line_59 ?_
          refine j_iload_n C dX7_line_60 rfl rfl ?_
          refine t_i hke ?_
          first | refine n_iadd C dX7_line_61 ?_ | refine j_iadd C dX7_line_61 ?_
          refine g_lald C (a12) (by omega) (by decide) dX7_line_62 ?_
          refine t_l (congrArg Prod.snd (hq.2.2.1 ks (by omega))) ?_
          exact j_lret C hr dX7_line_63 (by refine ⟨?_, rfl, rfl⟩; unfold lineR; first | (rw [if_pos ⟨h_5, h_20, h_31⟩, if_pos h_37, ← hxse, ← hkse]; done) | (rw [if_pos ⟨h_5, h_20, h_31⟩, if_neg h_37, ← hxse, ← hkse]; done) | (rw [if_neg (bff h_5)]; done) | (rw [if_neg (bff3 h_20)]; done) | (rw [if_neg (bff4 h_31)]; done))
        · refine j_aload_n C dX7_line_40 rfl rfl ?_
          refine g_getR C (o0) fl_X7_46 (by rfl) dX7_line_41 ?_
          refine j_iconst (v := nI 5) C dX7_line_44 (by decide) ?_
          refine j_iload_n C dX7_line_45 rfl rfl ?_
          refine t_i hxe ?_
          first | refine n_imul C dX7_line_46 ?_ | refine j_imul C dX7_line_46 ?_
          refine j_iload_n C dX7_line_47 rfl rfl ?_
          refine t_i hke ?_
          first | refine n_iadd C dX7_line_48 ?_ | refine j_iadd C dX7_line_48 ?_
          refine g_lald C (a11) (by omega) (by decide) dX7_line_49 ?_
          refine t_l (congrArg Prod.fst (hq.2.2.1 ks (by omega))) ?_
          refine j_goto (tgt := 63) C dX7_line_50 (by decide) ?_
          exact j_lret C hr dX7_line_63 (by refine ⟨?_, rfl, rfl⟩; unfold lineR; first | (rw [if_pos ⟨h_5, h_20, h_31⟩, if_pos h_37, ← hxse, ← hkse]; done) | (rw [if_pos ⟨h_5, h_20, h_31⟩, if_neg h_37, ← hxse, ← hkse]; done) | (rw [if_neg (bff h_5)]; done) | (rw [if_neg (bff3 h_20)]; done) | (rw [if_neg (bff4 h_31)]; done))
      · refine j_lconst (v := 0) C dX7_line_34 (by decide) ?_
        exact j_lret C hr dX7_line_35 (by refine ⟨?_, rfl, rfl⟩; unfold lineR; first | (rw [if_pos ⟨h_5, h_20, h_31⟩, if_pos h_37, ← hxse, ← hkse]; done) | (rw [if_pos ⟨h_5, h_20, h_31⟩, if_neg h_37, ← hxse, ← hkse]; done) | (rw [if_neg (bff h_5)]; done) | (rw [if_neg (bff3 h_20)]; done) | (rw [if_neg (bff4 h_31)]; done))

set_option maxHeartbeats 4000000 in
set_option maxRecDepth 20000 in
theorem c_X7_point (l : Launch) (G : GT) (rg : RgT) (I : II) (L : LL) (A : AS) (k y : Int32) (hms : isMS rg) (hRM : RM A I L) (hok : aok A) : CtL l yX7_point cX7_point 3 (some FieldType.long) 8 G rg I L [.ref (gB G + 0), .int k, .int y] (fun r I1 L1 => r = pointR A k y ∧ I = I1 ∧ L = L1) := by
  refine ctL_of [some (.ref (gB G + 0)), some (.int k), some (.int y)] rfl (Nat.le_of_ble_eq_true rfl) (by decide) ?_
  intro p e s m args below meth c C hr
  obtain ⟨o0, a1, a2, a3, a4, a5, a6, a7, a8, a9, a10, a11, a12, a13, a14, a15, a16, a17, a18, a19, a20, a21, a22, a23, a24, a25, a26⟩ := id hms
  obtain ⟨mN, mF, mP, mV, mA, mS, mT, mH, m8, m7, mX, mE⟩ := id hRM
  obtain ⟨k1, k4, k12, kT, kT0, kP⟩ := id hok
  refine j_aload_n C dX7_point_0 rfl rfl ?_
  refine g_getI C (o0) fl_X7_112 (by rfl) dX7_point_1 ?_
  refine t_i mH ?_
  first | refine n_if_eq (tgt := 33) C dX7_point_4 (by decide) (fun h_4 => ?_) (fun h_4 => ?_) | refine j_if_eq (tgt := 33) C dX7_point_4 (by decide) (fun h_4 => ?_) (fun h_4 => ?_)
  · refine j_lconst (v := 0) C dX7_point_33 (by decide) ?_
    exact j_lret C hr dX7_point_34 (by refine ⟨?_, rfl, rfl⟩; unfold pointR; cases hX : aX A with | none => rfl | some X => first | (rw [hX] at h_4; cases h_4; done) | (show _ = if _ then _ else _; rw [if_neg (fun q => of_decide_eq_false h_19 ⟨q.1, q.2.1⟩)]; done) | (show _ = if _ then _ else _; rw [if_neg (fun q => by rw [q.2.2] at h_30; cases h_30)]; done))
  · refine j_aload_n C dX7_point_7 rfl rfl ?_
    refine j_iload_n C dX7_point_8 rfl rfl ?_
    refine j_i2l C dX7_point_9 ?_
    refine j_lconst (v := 1) C dX7_point_10 (by decide) ?_
    refine j_aload_n C dX7_point_11 rfl rfl ?_
    refine g_getI C (o0) fl_X7_7 (by rfl) dX7_point_12 ?_
    refine t_i mN ?_
    refine j_i2l C dX7_point_15 ?_
    refine g_cvI C vc_X7_100 (c_X7_isIn l G rg _ _ _ _ _) ⟨Nat.le_of_ble_eq_true rfl, Nat.le_of_ble_eq_true rfl⟩ (o0) rfl rfl (Nat.le_of_ble_eq_true rfl) ⟨Nat.zero_le _, Nat.zero_le _⟩ dX7_point_16 (fun r_16 I_16 L_16 p_16 => ?_)
    obtain ⟨rfl, rfl, rfl⟩ := p_16
    refine t_i (congrArg b2i (in_1 (by omega))) ?_
    first | refine n_if_eq (tgt := 33) C dX7_point_19 (by decide) (fun h_19 => ?_) (fun h_19 => ?_) | refine j_if_eq (tgt := 33) C dX7_point_19 (by decide) (fun h_19 => ?_) (fun h_19 => ?_)
    · refine j_lconst (v := 0) C dX7_point_33 (by decide) ?_
      exact j_lret C hr dX7_point_34 (by refine ⟨?_, rfl, rfl⟩; unfold pointR; cases hX : aX A with | none => rfl | some X => first | (rw [hX] at h_4; cases h_4; done) | (show _ = if _ then _ else _; rw [if_neg (fun q => of_decide_eq_false h_19 ⟨q.1, q.2.1⟩)]; done) | (show _ = if _ then _ else _; rw [if_neg (fun q => by rw [q.2.2] at h_30; cases h_30)]; done))
    · refine j_aload_n C dX7_point_22 rfl rfl ?_
      refine j_iload_n C dX7_point_23 rfl rfl ?_
      refine j_i2l C dX7_point_24 ?_
      refine j_lconst (v := 0) C dX7_point_25 (by decide) ?_
      refine j_lconst (v := 1) C dX7_point_26 (by decide) ?_
      refine g_cvI C vc_X7_100 (c_X7_isIn l G rg _ _ _ _ _) ⟨Nat.le_of_ble_eq_true rfl, Nat.le_of_ble_eq_true rfl⟩ (o0) rfl rfl (Nat.le_of_ble_eq_true rfl) ⟨Nat.zero_le _, Nat.zero_le _⟩ dX7_point_27 (fun r_27 I_27 L_27 p_27 => ?_)
      obtain ⟨rfl, rfl, rfl⟩ := p_27
      refine t_i (congrArg b2i in_P) ?_
      first | refine n_if_ne (tgt := 35) C dX7_point_30 (by decide) (fun h_30 => ?_) (fun h_30 => ?_) | refine j_if_ne (tgt := 35) C dX7_point_30 (by decide) (fun h_30 => ?_) (fun h_30 => ?_)
      · obtain ⟨X, hX⟩ : ∃ X, aX A = some X := Option.isSome_iff_exists.mp h_4
        obtain ⟨hk0, hki⟩ := of_decide_eq_true h_19
        obtain ⟨hke, hkn⟩ := okI_t hki
        obtain ⟨ks, hkse⟩ : ∃ g, g = k.toNatClampNeg := ⟨_, rfl⟩
        rw [← hkse] at hke hkn
        have hk1 : 1 ≤ ks := Nat.pos_of_ne_zero (fun z => hk0 (by rw [hke, z]; rfl))
        have hq := mX X hX ks hk1 hkn
        refine j_iload_n C dX7_point_35 rfl rfl ?_
        refine j_if_ne (tgt := 48) C dX7_point_36 (by decide) (fun h_36 => ?_) (fun h_36 => ?_)
        · refine j_aload_n C dX7_point_48 rfl rfl ?_
          refine g_getR C (o0) fl_X7_79 (by rfl) dX7_point_49 ?_
          refine j_iload_n C dX7_point_52 rfl rfl ?_
          refine t_i hke ?_
          refine g_lald C (a22) (by omega) (by decide) dX7_point_53 ?_
          refine t_l (congrArg Prod.snd hq) ?_
          exact j_lret C hr dX7_point_54 (by refine ⟨?_, rfl, rfl⟩; unfold pointR; rw [hX]; show _ = if _ then _ else _; first | (rw [if_pos ⟨hk0, hki, h_30⟩, if_pos h_36, ← hkse]; done) | (rw [if_pos ⟨hk0, hki, h_30⟩, if_neg h_36, ← hkse]; done))
        · refine j_aload_n C dX7_point_39 rfl rfl ?_
          refine g_getR C (o0) fl_X7_76 (by rfl) dX7_point_40 ?_
          refine j_iload_n C dX7_point_43 rfl rfl ?_
          refine t_i hke ?_
          refine g_lald C (a21) (by omega) (by decide) dX7_point_44 ?_
          refine t_l (congrArg Prod.fst hq) ?_
          refine j_goto (tgt := 54) C dX7_point_45 (by decide) ?_
          exact j_lret C hr dX7_point_54 (by refine ⟨?_, rfl, rfl⟩; unfold pointR; rw [hX]; show _ = if _ then _ else _; first | (rw [if_pos ⟨hk0, hki, h_30⟩, if_pos h_36, ← hkse]; done) | (rw [if_pos ⟨hk0, hki, h_30⟩, if_neg h_36, ← hkse]; done))
      · refine j_lconst (v := 0) C dX7_point_33 (by decide) ?_
        exact j_lret C hr dX7_point_34 (by refine ⟨?_, rfl, rfl⟩; unfold pointR; cases hX : aX A with | none => rfl | some X => first | (rw [hX] at h_4; cases h_4; done) | (show _ = if _ then _ else _; rw [if_neg (fun q => of_decide_eq_false h_19 ⟨q.1, q.2.1⟩)]; done) | (show _ = if _ then _ else _; rw [if_neg (fun q => by rw [q.2.2] at h_30; cases h_30)]; done))
