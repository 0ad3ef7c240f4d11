/-! ===== the model: plant ===== -/
theorem up_9 {L : LL} {z : Fr} {q : Nat} {v : Int64} : up2 (setU L z) 9 q v 0 6 = z.2 := by rw [up2_ne _ (by decide)]; exact setU_6 _ _
theorem RelX_pl {n s : Nat} {I : II} {L : LL} {E : ES} {z : Fr} {w : Bool} (h : RelX n I L E) (hs : s < eS E) : RelX n (setW I w) (up2 (up2 (setU L z) 9 s z.1) 10 s z.2) (E.1, E.2.1, E.2.2.1, E.2.2.2.1, va_up (eW E) s z, E.2.2.2.2.2) := by
  refine ⟨fun j hj => by rw [setW_q _ _ (by decide)]; exact h.1 j hj, fun t ht => ?_⟩
  obtain ⟨b1, b2, b3, b4⟩ := h.2 t ht
  refine ⟨by rw [setW_q _ _ (by decide)]; exact b1, ?_, fun j hj => ?_, fun j hj => by rw [setW_q _ _ (by decide)]; exact b4 j hj⟩
  · show _ = va_up (eW E) s z t
    rw [up2_ne _ (show (9 : Nat) ≠ 10 by decide), up2_at, up2_at, if_pos rfl, if_pos rfl, up2_ne _ (show (10 : Nat) ≠ 9 by decide), setU_q _ _ (by decide), setU_q _ _ (by decide)]
    by_cases e : t = s
    · rw [if_pos e, if_pos e, e, va_up_self]
    · rw [if_neg e, if_neg e, va_up_ne _ _ e]; exact b2
  · rw [up2_ne _ (show (11 : Nat) ≠ 10 by decide), up2_ne _ (show (11 : Nat) ≠ 9 by decide), up2_ne _ (show (12 : Nat) ≠ 10 by decide), up2_ne _ (show (12 : Nat) ≠ 9 by decide), setU_q _ _ (by decide), setU_q _ _ (by decide)]
    exact b3 j hj
set_option maxHeartbeats 4000000 in
set_option maxRecDepth 20000 in
theorem c_X7_plant (l : Launch) (G : GT) (rg : RgT) (I : II) (L : LL) (A : AS) (x : Int32) (u v : Int64) (hms : isMS rg) (hRM : RM A I L) (hok : aok A) : CtI l yX7_plant cX7_plant 6 (some FieldType.int) 8 G rg I L [.ref (gB G + 0), .int x, .long u, .long v] (fun r I1 L1 => r = plantR A x u v ∧ RM (plantS A x u v) I1 L1) := by
  refine ctI_of [some (.ref (gB G + 0)), some (.int x), some (.long u), none, some (.long v), none] rfl (Nat.le_of_ble_eq_true rfl) (by decide) ?_
  intro p e s m args below meth c C hr
  obtain ⟨o0, a1, a2, a3, a4, a5, a6, a7, a8, a9, a10, a11, a12, a13, a14, a15, a16, a17, a18, a19, a20, a21, a22, a23, a24, a25, a26⟩ := id hms
  obtain ⟨mN, mF, mP, mV, mA, mS, mT, mH, m8, m7, mX, mE⟩ := id hRM
  obtain ⟨k1, k4, k12, kT, kT0, kP⟩ := id hok
  refine j_aload_n C dX7_plant_0 rfl rfl ?_
  refine j_iload_n C dX7_plant_1 rfl rfl ?_
  refine g_cvI C vc_X7_281 (c_X7_isSquare l G rg _ _ A x hms hRM hok) ⟨Nat.le_of_ble_eq_true rfl, Nat.le_of_ble_eq_true rfl⟩ (o0) rfl rfl (Nat.le_of_ble_eq_true rfl) ⟨Nat.zero_le _, Nat.zero_le _⟩ dX7_plant_2 (fun r_2 I_2 L_2 p_2 => ?_)
  obtain ⟨rfl, rfl, rfl⟩ := p_2
  first | refine n_if_eq (tgt := 15) C dX7_plant_5 (by decide) (fun h_5 => ?_) (fun h_5 => ?_) | refine j_if_eq (tgt := 15) C dX7_plant_5 (by decide) (fun h_5 => ?_) (fun h_5 => ?_)
  · refine j_iconst (v := (-1)) C dX7_plant_15 (by decide) ?_
    exact j_iret C hr dX7_plant_16 (by unfold plantR plantS; first | (rw [if_neg (bff h_5), if_neg (bff h_5)]; exact ⟨rfl, hRM⟩) | (rw [if_neg (nfb h_12), if_neg (nfc h_12)]; exact ⟨rfl, hRM⟩))
  · refine j_lload C dX7_plant_8 rfl ?_
    refine j_lconst (v := 0) C dX7_plant_10 (by decide) ?_
    refine j_lc_ne (tgt := 17) C dX7_plant_11 dX7_plant_12 (by decide) (fun h_12 => ?_) (fun h_12 => ?_)
    · refine j_lload_n C dX7_plant_17 rfl rfl ?_
      refine j_ldc2 C kc_X7_145 dX7_plant_18 ?_
      refine j_lc_eq (tgt := 34) C dX7_plant_21 dX7_plant_22 (by decide) (fun h_22 => ?_) (fun h_22 => ?_)
      · refine j_bipush (v := (-30)) C dX7_plant_34 (by decide) ?_
        exact j_iret C hr dX7_plant_36 (by unfold plantR plantS; first | (rw [if_pos ⟨h_5, h_12⟩, if_pos (Or.inl h_22), if_neg (fun q => q.2.2.1 h_22)]; exact ⟨rfl, hRM⟩) | (rw [if_pos ⟨h_5, h_12⟩, if_pos (Or.inr h_31), if_neg (fun q => q.2.2.2 h_31)]; exact ⟨rfl, hRM⟩))
      · refine j_lload C dX7_plant_25 rfl ?_
        refine j_ldc2 C kc_X7_145 dX7_plant_27 ?_
        refine j_lc_ne (tgt := 37) C dX7_plant_30 dX7_plant_31 (by decide) (fun h_31 => ?_) (fun h_31 => ?_)
        · obtain ⟨hxe, h01, hxs, hs5⟩ := okS_t hok h_5
          obtain ⟨hRX, hFi⟩ := mE h01
          obtain ⟨xs, hxse⟩ : ∃ g, g = x.toNatClampNeg := ⟨_, rfl⟩
          rw [← hxse] at hxe hxs
          have hq := hRX.2 xs hxs
          refine j_aload_n C dX7_plant_37 rfl rfl ?_
          refine g_cvV C vc_X7_195 (c_X7_begin l G rg _ _ hms) ⟨Nat.le_of_ble_eq_true rfl, Nat.le_of_ble_eq_true rfl⟩ (o0) rfl rfl (Nat.le_of_ble_eq_true rfl) ⟨Nat.zero_le _, Nat.zero_le _⟩ dX7_plant_38 (fun I_38 L_38 p_38 => ?_)
          obtain ⟨rfl, rfl⟩ := p_38
          refine t_IL (I1 := setW I false) (up2_same _ ((setW_k _ _ (by decide)).trans m8)) rfl ?_
          refine j_aload_n C dX7_plant_41 rfl rfl ?_
          refine j_lload_n C dX7_plant_42 rfl rfl ?_
          refine j_lload C dX7_plant_43 rfl ?_
          refine g_cvV C vc_X7_165 (c_X7_lowest l G rg _ _ false u v hms (setW_7 _ _) ((setW_k _ _ (by decide)).trans m8) (fun _ => h_22) (fun _ => h_31) (fun _ => h_12)) ⟨Nat.le_of_ble_eq_true rfl, Nat.le_of_ble_eq_true rfl⟩ (o0) rfl rfl (Nat.le_of_ble_eq_true rfl) ⟨Nat.zero_le _, Nat.zero_le _⟩ dX7_plant_45 (fun I_45 L_45 p_45 => ?_)
          obtain ⟨rfl, e2⟩ := p_45
          rw [if_neg (by decide)] at e2
          subst e2
          refine j_aload_n C dX7_plant_48 rfl rfl ?_
          refine g_getR C (o0) fl_X7_40 (by rfl) dX7_plant_49 ?_
          refine j_iload_n C dX7_plant_52 rfl rfl ?_
          refine t_i hxe ?_
          refine j_aload_n C dX7_plant_53 rfl rfl ?_
          refine g_getL C (o0) fl_X7_147 (by rfl) dX7_plant_54 ?_
          refine t_l (setU_5 _ _) ?_
          refine g_last C (a9) (by omega) (by decide) dX7_plant_57 ?_
          refine j_aload_n C dX7_plant_58 rfl rfl ?_
          refine g_getR C (o0) fl_X7_43 (by rfl) dX7_plant_59 ?_
          refine j_iload_n C dX7_plant_62 rfl rfl ?_
          refine t_i hxe ?_
          refine j_aload_n C dX7_plant_63 rfl rfl ?_
          refine g_getL C (o0) fl_X7_151 (by rfl) dX7_plant_64 ?_
          refine t_l up_9 ?_
          refine g_last C (a10) (by omega) (by decide) dX7_plant_67 ?_
          refine j_iconst (v := nI 0) C dX7_plant_68 (by decide) ?_
          refine j_iret C hr dX7_plant_69 ?_
          unfold plantR plantS
          rw [if_pos ⟨h_5, h_12⟩, if_neg (fun q => q.elim h_22 h_31), if_pos ⟨h_5, h_12, h_22, h_31⟩, ← hxse]
          have zL : ∀ q, q ≠ 0 → q ≠ 9 → q ≠ 10 → up2 (up2 (setU L (red u v)) 9 xs (red u v).1) 10 xs (red u v).2 q = L q := fun q a b c => by rw [up2_ne _ c, up2_ne _ b, setU_q _ _ a]
          refine ⟨rfl, (setW_k _ _ (by decide)).trans mN, (setW_k _ _ (by decide)).trans mF, (setW_k _ _ (by decide)).trans mP, fun f k hf hk => by rw [setW_q _ _ (by decide)]; exact mV f k hf hk, (setW_k _ _ (by decide)).trans mA, (setW_k _ _ (by decide)).trans mS, fun q => ?_, (setW_k _ _ (by decide)).trans mH, (setW_k _ _ (by decide)).trans m8, ⟨false, setW_7 _ _⟩, fun X hX k k1 k2 => by rw [zL 21 (by decide) (by decide) (by decide), zL 22 (by decide) (by decide) (by decide)]; exact mX X hX k k1 k2, fun q => ⟨RelX_pl hRX hxs, fun i j hi hj => by rw [zL 5 (by decide) (by decide) (by decide), zL 6 (by decide) (by decide) (by decide)]; exact hFi i j hi hj⟩⟩
          obtain ⟨t1, t2, t3, t4, t5⟩ := mT q
          exact ⟨(setW_k _ _ (by decide)).trans t1, (setW_k _ _ (by decide)).trans t2, (setW_k _ _ (by decide)).trans t3, (setW_k _ _ (by decide)).trans t4, (setW_k _ _ (by decide)).trans t5⟩
        · refine j_bipush (v := (-30)) C dX7_plant_34 (by decide) ?_
          exact j_iret C hr dX7_plant_36 (by unfold plantR plantS; first | (rw [if_pos ⟨h_5, h_12⟩, if_pos (Or.inl h_22), if_neg (fun q => q.2.2.1 h_22)]; exact ⟨rfl, hRM⟩) | (rw [if_pos ⟨h_5, h_12⟩, if_pos (Or.inr h_31), if_neg (fun q => q.2.2.2 h_31)]; exact ⟨rfl, hRM⟩))
    · refine j_iconst (v := (-1)) C dX7_plant_15 (by decide) ?_
      exact j_iret C hr dX7_plant_16 (by unfold plantR plantS; first | (rw [if_neg (bff h_5), if_neg (bff h_5)]; exact ⟨rfl, hRM⟩) | (rw [if_neg (nfb h_12), if_neg (nfc h_12)]; exact ⟨rfl, hRM⟩))
