theorem b2i_and (p q : Bool) : b2i p &&& b2i q = b2i (p && q) := by cases p <;> cases q <;> decide
theorem RM_2 {A : AS} {I I1 : II} {L : LL} (h : RM A I L) (h2 : ∀ q, q ≠ 2 → I1 q = I q) : RM A I1 L := by
  obtain ⟨mN, mF, mP, mV, mA, mS, mT, mH, m8, m7, mX, mE⟩ := h
  have h0 := h2 0 (by decide)
  refine ⟨by rw [h0]; exact mN, by rw [h0]; exact mF, by rw [h0]; exact mP, by rw [h2 1 (by decide)]; exact mV, by rw [h0]; exact mA, by rw [h0]; exact mS, by rw [h0]; exact mT, by rw [h0]; exact mH, by rw [h0]; exact m8, by rw [h0]; exact m7, mX, fun q => ⟨(mE q).1.cong (h2 7 (by decide)) (h2 8 (by decide)) (h2 13 (by decide)) (fun _ _ _ => rfl), (mE q).2⟩⟩
theorem vw_5 {I : II} {a b c d : Int32} : ∀ k, k < 5 → (up2 (up2 (up2 (up2 (up2 I 2 0 (nI 1)) 2 1 a) 2 2 b) 2 3 c) 2 4 d 2 k).toInt64 = wh5 a b c d k := fun k hk => by
  unfold wh5
  simp only [up2_at, if_true]
  rcases (show k = 0 ∨ k = 1 ∨ k = 2 ∨ k = 3 ∨ k = 4 by omega) with e | e | e | e | e <;> subst e <;> first | rfl | (simp; done) | (simp; rfl)
theorem vw_f {I : II} {a b c d : Int32} : ∀ q, q ≠ 2 → up2 (up2 (up2 (up2 (up2 I 2 0 (nI 1)) 2 1 a) 2 2 b) 2 3 c) 2 4 d q = I q := fun q hq => by
  rw [up2_ne _ hq, up2_ne _ hq, up2_ne _ hq, up2_ne _ hq, up2_ne _ hq]
theorem in_w {v : Int64} : ((-1000 : Int64) ≤ v ∧ v ≤ 1000) ↔ (¬ v < -1000 ∧ v ≤ 1000) := by rw [Int64.not_lt]
set_option maxHeartbeats 4000000 in
set_option maxRecDepth 20000 in
theorem c_X7_value (l : Launch) (G : GT) (rg : RgT) (I : II) (L : LL) (A : AS) (f x1 x2 x3 x4 : Int32) (hms : isMS rg) (hRM : RM A I L) (hok : aok A) : CtL l yX7_value cX7_value 8 (some FieldType.long) 8 G rg I L [.ref (gB G + 0), .int f, .int x1, .int x2, .int x3, .int x4] (fun r I1 L1 => r = valueR A f x1 x2 x3 x4 ∧ RM A I1 L1) := by
  refine ctL_of [some (.ref (gB G + 0)), some (.int f), some (.int x1), some (.int x2), some (.int x3), some (.int x4), none, none] rfl (Nat.le_of_ble_eq_true rfl) (by decide) ?_
  intro p e s m args below meth c C hr
  obtain ⟨o0, a1, a2, a3, a4, a5, a6, a7, a8, a9, a10, a11, a12, a13, a14, a15, a16, a17, a18, a19, a20, a21, a22, a23, a24, a25, a26⟩ := id hms
  obtain ⟨mN, mF, mP, mV, mA, mS, mT, mH, m8, m7, mX, mE⟩ := id hRM
  obtain ⟨k1, k4, k12, kT, kT0, kP⟩ := id hok
  refine j_aload_n C dX7_value_0 rfl rfl ?_
  refine g_getR C (o0) fl_X7_17 (by rfl) dX7_value_1 ?_
  refine j_iconst (v := nI 0) C dX7_value_4 (by decide) ?_
  refine j_iconst (v := nI 1) C dX7_value_5 (by decide) ?_
  refine g_iast C (a2) (by decide) (by decide) dX7_value_6 ?_
  refine j_aload_n C dX7_value_7 rfl rfl ?_
  refine g_getR C (o0) fl_X7_17 (by rfl) dX7_value_8 ?_
  refine j_iconst (v := nI 1) C dX7_value_11 (by decide) ?_
  refine j_iload_n C dX7_value_12 rfl rfl ?_
  refine g_iast C (a2) (by decide) (by decide) dX7_value_13 ?_
  refine j_aload_n C dX7_value_14 rfl rfl ?_
  refine g_getR C (o0) fl_X7_17 (by rfl) dX7_value_15 ?_
  refine j_iconst (v := nI 2) C dX7_value_18 (by decide) ?_
  refine j_iload_n C dX7_value_19 rfl rfl ?_
  refine g_iast C (a2) (by decide) (by decide) dX7_value_20 ?_
  refine j_aload_n C dX7_value_21 rfl rfl ?_
  refine g_getR C (o0) fl_X7_17 (by rfl) dX7_value_22 ?_
  refine j_iconst (v := nI 3) C dX7_value_25 (by decide) ?_
  refine j_iload C dX7_value_26 rfl ?_
  refine g_iast C (a2) (by decide) (by decide) dX7_value_28 ?_
  refine j_aload_n C dX7_value_29 rfl rfl ?_
  refine g_getR C (o0) fl_X7_17 (by rfl) dX7_value_30 ?_
  refine j_iconst (v := nI 4) C dX7_value_33 (by decide) ?_
  refine j_iload C dX7_value_34 rfl ?_
  refine g_iast C (a2) (by decide) (by decide) dX7_value_36 ?_
  have w5 := vw_5 (I := I) (a := x1) (b := x2) (c := x3) (d := x4)
  have wf := vw_f (I := I) (a := x1) (b := x2) (c := x3) (d := x4)
  revert w5 wf
  generalize up2 (up2 (up2 (up2 (up2 I 2 0 (nI 1)) 2 1 x1) 2 2 x2) 2 3 x3) 2 4 x4 = I5
  intro w5 wf
  have hRM5 := RM_2 hRM wf
  refine j_aload_n C dX7_value_37 rfl rfl ?_
  refine j_iload_n C dX7_value_38 rfl rfl ?_
  refine g_cvI C vc_X7_116 (c_X7_isForm l G rg _ _ (aF A) f hms hRM5.2.1 (by omega)) ⟨Nat.le_of_ble_eq_true rfl, Nat.le_of_ble_eq_true rfl⟩ (o0) rfl rfl (Nat.le_of_ble_eq_true rfl) ⟨Nat.zero_le _, Nat.zero_le _⟩ dX7_value_39 (fun r_39 I_39 L_39 p_39 => ?_)
  obtain ⟨rfl, rfl, rfl⟩ := p_39
  refine j_istore C dX7_value_42 (by decide) ?_
  refine j_iconst (v := nI 1) C dX7_value_44 (by decide) ?_
  refine j_istore C dX7_value_45 (by decide) ?_
  have lp : ∀ (fuel : Nat) (k : Nat) (ft : Bool), aN A + 1 < fuel + k → 1 ≤ k → k ≤ aN A + 1 → (ft = true ↔ okF f (aF A) = true ∧ ∀ q, 1 ≤ q → q < k → ¬ wh5 x1 x2 x3 x4 q < -1000 ∧ wh5 x1 x2 x3 x4 q ≤ 1000) → J p l e (rmD 8) s m args below meth c (MQ below (QL G rg (fun r I1 L1 => r = valueR A f x1 x2 x3 x4 ∧ RM A I1 L1)) args s 0 0 (rg_A G rg)) 8 G rg 0 0 I5 L 47 [some (.ref (gB G + 0)), some (.int f), some (.int x1), some (.int x2), some (.int x3), some (.int x4), some (.int (b2i ft)), some (.int (nI k))] [] := by
    intro fuel
    induction fuel with
    | zero => intro k ft h1 h2 h3 hft; exfalso; omega
    | succ fuel ih_lp =>
      intro k ft h1 h2 h3 hft
      refine j_iload C dX7_value_47 rfl ?_
      refine j_aload_n C dX7_value_49 rfl rfl ?_
      refine g_getI C (o0) fl_X7_7 (by rfl) dX7_value_50 ?_
      refine t_i hRM5.1 ?_
      first | refine n_icmp_gt (tgt := 85) C (by omega) (by omega) dX7_value_53 (by decide) (fun h_53 => ?_) (fun h_53 => ?_) | refine j_icmp_gt (tgt := 85) C dX7_value_53 (by decide) (fun h_53 => ?_) (fun h_53 => ?_)
      · refine j_iload C dX7_value_85 rfl ?_
        first | refine n_if_eq (tgt := 98) C dX7_value_87 (by decide) (fun h_87 => ?_) (fun h_87 => ?_) | refine j_if_eq (tgt := 98) C dX7_value_87 (by decide) (fun h_87 => ?_) (fun h_87 => ?_)
        · refine j_ldc2 C kc_X7_137 dX7_value_98 ?_
          exact j_lret C hr dX7_value_101 (by unfold valueR; first | exact ⟨(cif_t hvo).symm, hRM5⟩ | exact ⟨(cif_f (fun q => by rw [hft.mpr ⟨q.1, fun j j1 j2 => q.2 j j1 (by omega)⟩] at h_87; cases h_87)).symm, hRM5⟩)
        · have hv := hft.mp h_87
          have hvo : valOk A f x1 x2 x3 x4 := ⟨hv.1, fun q q1 q2 => hv.2 q q1 (by omega)⟩
          obtain ⟨hfe, hfn⟩ := okF_t hv.1
          refine j_aload_n C dX7_value_90 rfl rfl ?_
          refine j_iload_n C dX7_value_91 rfl rfl ?_
          refine t_i hfe ?_
          refine g_cvL C vc_X7_133 (c_X7_worth l G rg _ _ (aN A) f.toNatClampNeg (aV A f.toNatClampNeg) (wh5 x1 x2 x3 x4) hms hRM5.1 (by omega) (by omega) (fun k hk => hRM5.2.2.2.1 _ k (by omega) hk) (fun k hk => w5 k (by omega))) ⟨Nat.le_of_ble_eq_true rfl, Nat.le_of_ble_eq_true rfl⟩ (o0) rfl rfl (Nat.le_of_ble_eq_true rfl) ⟨Nat.zero_le _, Nat.zero_le _⟩ dX7_value_92 (fun r_92 I_92 L_92 p_92 => ?_)
          obtain ⟨rfl, rfl, rfl⟩ := p_92
          refine j_goto (tgt := 101) C dX7_value_95 (by decide) ?_
          exact j_lret C hr dX7_value_101 (by unfold valueR; first | exact ⟨(cif_t hvo).symm, hRM5⟩ | exact ⟨(cif_f (fun q => by rw [hft.mpr ⟨q.1, fun j j1 j2 => q.2 j j1 (by omega)⟩] at h_87; cases h_87)).symm, hRM5⟩)
      · refine j_iload C dX7_value_56 rfl ?_
        refine j_aload_n C dX7_value_58 rfl rfl ?_
        refine j_aload_n C dX7_value_59 rfl rfl ?_
        refine g_getR C (o0) fl_X7_17 (by rfl) dX7_value_60 ?_
        refine j_iload C dX7_value_63 rfl ?_
        refine g_iald C (a2) (by omega) (by decide) dX7_value_65 ?_
        refine j_i2l C dX7_value_66 ?_
        refine t_l (w5 k (by omega)) ?_
        refine j_ldc2 C kc_X7_129 dX7_value_67 ?_
        refine j_ldc2 C kc_X7_131 dX7_value_70 ?_
        refine g_cvI C vc_X7_100 (c_X7_isIn l G rg _ _ _ _ _) ⟨Nat.le_of_ble_eq_true rfl, Nat.le_of_ble_eq_true rfl⟩ (o0) rfl rfl (Nat.le_of_ble_eq_true rfl) ⟨Nat.zero_le _, Nat.zero_le _⟩ dX7_value_73 (fun r_73 I_73 L_73 p_73 => ?_)
        obtain ⟨rfl, rfl, rfl⟩ := p_73
        refine j_iand C dX7_value_76 ?_
        refine t_i (b2i_and _ _) ?_
        refine j_istore C dX7_value_77 (by decide) ?_
        first | refine n_iinc (n := 1) C dX7_value_79 rfl (by decide) ?_ | refine j_iinc C dX7_value_79 rfl rfl (by decide) ?_
        refine j_goto (tgt := 47) C dX7_value_82 (by decide) ?_
        refine ih_lp (k + 1) _ (by omega) (by omega) (by omega) ?_
        rw [Bool.and_eq_true_iff, hft, decide_eq_true_iff, in_w]
        constructor
        · rintro ⟨⟨q1, q2⟩, q3⟩
          exact ⟨q1, fun q a1 a2 => by by_cases e : q = k; (rw [e]; exact q3); (exact q2 q a1 (by omega))⟩
        · rintro ⟨q1, q2⟩
          exact ⟨⟨q1, fun q a1 a2 => q2 q a1 (by omega)⟩, q2 k (by omega) (by omega)⟩
  exact lp (aN A + 2) 1 (okF f (aF A)) (by omega) (by omega) (by omega) ⟨fun q => ⟨q, fun j j1 j2 => by omega⟩, fun q => q.1⟩
