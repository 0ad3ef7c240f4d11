/-! ===== the model: under ===== -/
def FU (I I1 : II) (L L1 : LL) : Prop := (∀ q, q ≠ 0 → q ≠ 7 → q ≠ 8 → q ≠ 13 → I1 q = I q) ∧ (∀ k, k ≠ 7 → k ≠ 14 → k ≠ 21 → k ≠ 22 → k ≠ 23 → k ≠ 40 → I1 0 k = I 0 k) ∧ (∀ q, q ≠ 0 → ¬ (3 ≤ q ∧ q ≤ 6) → ¬ (9 ≤ q ∧ q ≤ 12) → q ≠ 23 → q ≠ 24 → L1 q = L q)
theorem FU.rf {I : II} {L : LL} : FU I I L L := ⟨fun _ _ _ _ _ => rfl, fun _ _ _ _ _ _ _ => rfl, fun _ _ _ _ _ _ => rfl⟩
theorem FU.st {I I1 I2 : II} {L L1 L2 : LL} {v : Int32} (h : FU I I1 L L1) (h2 : FD (up2 I1 0 40 v) I2 L1 L2) : FU I I2 L L2 := ⟨fun q a b c d => by rw [h2.1 q a b c d, up2_ne _ a]; exact h.1 q a b c d, fun k a b c d e f => by rw [h2.2.1 k a b c d e, up2_at, if_pos rfl, if_neg f]; exact h.2.1 k a b c d e f, fun q a b c d e => (h2.2.2 q a b c d e).trans (h.2.2 q a b c d e)⟩
theorem in_z {z : Int32} : decide ((1 : Int64) ≤ z.toInt64 ∧ z.toInt64 ≤ 20) = true ↔ ¬ z < 1 ∧ z ≤ 20 := by
  rw [decide_eq_true_iff, Int64.le_iff_toInt_le, Int64.le_iff_toInt_le, Int32.toInt_toInt64, Int32.lt_iff_toInt_lt, Int32.le_iff_toInt_le, i64_1, show (20 : Int64).toInt = 20 by decide, show (1 : Int32).toInt = 1 by decide, show (20 : Int32).toInt = 20 by decide]
  omega
theorem ub34 {A : AS} {x y z : Int32} (h : decide ((1 : Int64) ≤ z.toInt64 ∧ z.toInt64 ≤ 20) = false) : ¬ unOk A x y z := fun q => by
  rw [in_z.mpr ⟨q.2.2.1, q.2.2.2⟩] at h; cases h
set_option maxHeartbeats 4000000 in
set_option maxRecDepth 20000 in
theorem c_X7_under (l : Launch) (G : GT) (rg : RgT) (I : II) (L : LL) (A : AS) (x y z : Int32) (hms : isMS rg) (hRM : RM A I L) (hok : aok A) : CtI l yX7_under cX7_under 6 (some FieldType.int) 8 G rg I L [.ref (gB G + 0), .int x, .int y, .int z] (fun r I1 L1 => r = underR A x y z ∧ RM (underS A x y z) I1 L1) := by
  refine ctI_of [some (.ref (gB G + 0)), some (.int x), some (.int y), some (.int z), none, none] rfl (Nat.le_of_ble_eq_true rfl) (by decide) ?_
  intro p e s m args below meth c C hr
  obtain ⟨o0, a1, a2, a3, a4, a5, a6, a7, a8, a9, a10, a11, a12, a13, a14, a15, a16, a17, a18, a19, a20, a21, a22, a23, a24, a25, a26⟩ := id hms
  obtain ⟨mN, mF, mP, mV, mA, mS, mT, mH, m8, m7, mX, mE⟩ := id hRM
  obtain ⟨k1, k4, k12, kT, kT0, kP⟩ := id hok
  refine j_aload_n C dX7_under_0 rfl rfl ?_
  refine j_iload_n C dX7_under_1 rfl rfl ?_
  refine g_cvI C vc_X7_116 (c_X7_isForm l G rg _ _ (aF A) x hms mF (by omega)) ⟨Nat.le_of_ble_eq_true rfl, Nat.le_of_ble_eq_true rfl⟩ (o0) rfl rfl (Nat.le_of_ble_eq_true rfl) ⟨Nat.zero_le _, Nat.zero_le _⟩ dX7_under_2 (fun r_2 I_2 L_2 p_2 => ?_)
  obtain ⟨rfl, rfl, rfl⟩ := p_2
  first | refine n_if_eq (tgt := 29) C dX7_under_5 (by decide) (fun h_5 => ?_) (fun h_5 => ?_) | refine j_if_eq (tgt := 29) C dX7_under_5 (by decide) (fun h_5 => ?_) (fun h_5 => ?_)
  · refine j_iconst (v := (-1)) C dX7_under_29 (by decide) ?_
    exact j_iret C hr dX7_under_30 (by have hb : ¬ unOk A x y z := (by first | exact ub1 h_5 | exact ub2 h_13 | exact ub34 h_26); unfold underR underS; rw [cif_f hb, cif_f hb]; exact ⟨rfl, hRM⟩)
  · refine j_aload_n C dX7_under_8 rfl rfl ?_
    refine j_iload_n C dX7_under_9 rfl rfl ?_
    refine g_cvI C vc_X7_116 (c_X7_isForm l G rg _ _ (aF A) y hms mF (by omega)) ⟨Nat.le_of_ble_eq_true rfl, Nat.le_of_ble_eq_true rfl⟩ (o0) rfl rfl (Nat.le_of_ble_eq_true rfl) ⟨Nat.zero_le _, Nat.zero_le _⟩ dX7_under_10 (fun r_10 I_10 L_10 p_10 => ?_)
    obtain ⟨rfl, rfl, rfl⟩ := p_10
    first | refine n_if_eq (tgt := 29) C dX7_under_13 (by decide) (fun h_13 => ?_) (fun h_13 => ?_) | refine j_if_eq (tgt := 29) C dX7_under_13 (by decide) (fun h_13 => ?_) (fun h_13 => ?_)
    · refine j_iconst (v := (-1)) C dX7_under_29 (by decide) ?_
      exact j_iret C hr dX7_under_30 (by have hb : ¬ unOk A x y z := (by first | exact ub1 h_5 | exact ub2 h_13 | exact ub34 h_26); unfold underR underS; rw [cif_f hb, cif_f hb]; exact ⟨rfl, hRM⟩)
    · refine j_aload_n C dX7_under_16 rfl rfl ?_
      refine j_iload_n C dX7_under_17 rfl rfl ?_
      refine j_i2l C dX7_under_18 ?_
      refine j_lconst (v := 1) C dX7_under_19 (by decide) ?_
      refine j_ldc2 C kc_X7_267 dX7_under_20 ?_
      refine g_cvI C vc_X7_100 (c_X7_isIn l G rg _ _ _ _ _) ⟨Nat.le_of_ble_eq_true rfl, Nat.le_of_ble_eq_true rfl⟩ (o0) rfl rfl (Nat.le_of_ble_eq_true rfl) ⟨Nat.zero_le _, Nat.zero_le _⟩ dX7_under_23 (fun r_23 I_23 L_23 p_23 => ?_)
      obtain ⟨rfl, rfl, rfl⟩ := p_23
      first | refine n_if_ne (tgt := 31) C dX7_under_26 (by decide) (fun h_26 => ?_) (fun h_26 => ?_) | refine j_if_ne (tgt := 31) C dX7_under_26 (by decide) (fun h_26 => ?_) (fun h_26 => ?_)
      · obtain ⟨hz1, hz2⟩ := in_z.mp h_26
        have hb : unOk A x y z := ⟨h_5, h_13, hz1, hz2⟩
        have hur : underR A x y z = nI (unW A x y z).1 := cif_t hb
        have hus : underS A x y z = toldS A (unW A x y z).1 (unW A x y z).2.1 (unW A x y z).2.2.1 (unW A x y z).2.2.2.1 x y (unW A x y z).2.2.2.2.1 (unW A x y z).2.2.2.2.2 (nI (unM A x y z).1) := cif_t hb
        obtain ⟨hx, hxn⟩ := okF_t h_5
        obtain ⟨hy, hyn⟩ := okF_t h_13
        obtain ⟨hz, hz1, hz2⟩ := fin_x hz1 hz2
        obtain ⟨g, hge⟩ : ∃ g, g = x.toNatClampNeg := ⟨_, rfl⟩
        obtain ⟨cn, hce⟩ : ∃ g, g = y.toNatClampNeg := ⟨_, rfl⟩
        obtain ⟨fin, hfe⟩ : ∃ g, g = z.toNatClampNeg := ⟨_, rfl⟩
        have hum : unM A x y z = mfS (aN A) (aV A g) (aV A cn) fin fin 0 := by unfold unM; rw [← hge, ← hce, ← hfe]
        have huw : unW A x y z = unQ (aN A) (aV A g) (aV A cn) (mfS (aN A) (aV A g) (aV A cn) fin fin 0) := by unfold unW; rw [hum, ← hge, ← hce]
        rw [hum] at hus
        rw [huw] at hur hus
        obtain ⟨R, hR⟩ : ∃ zR, zR = mfS (aN A) (aV A g) (aV A cn) fin fin 0 := ⟨_, rfl⟩
        rw [← hR] at hur hus
        rw [← hge] at hx hxn
        rw [← hce] at hy hyn
        rw [← hfe] at hz hz1 hz2
        refine j_aload_n C dX7_under_31 rfl rfl ?_
        refine j_iload_n C dX7_under_32 rfl rfl ?_
        refine j_iload_n C dX7_under_33 rfl rfl ?_
        refine g_cvV C vc_X7_251 (c_X7_beginProof l G rg _ _ (aP A) x y hms mP) ⟨Nat.le_of_ble_eq_true rfl, Nat.le_of_ble_eq_true rfl⟩ (o0) rfl rfl (Nat.le_of_ble_eq_true rfl) ⟨Nat.zero_le _, Nat.zero_le _⟩ dX7_under_34 (fun I_34 L_34 p_34 => ?_)
        obtain ⟨rfl, b0, b1, b3, b32, b36, b37, b38, b39, b40⟩ := p_34
        refine j_iconst (v := nI 1) C dX7_under_37 (by decide) ?_
        refine j_istore C dX7_under_38 (by decide) ?_
        have lp : ∀ (fuel : Nat) (s0 t0 : Nat) (I1 : II) (L1 : LL), fin + 1 < fuel + s0 → 1 ≤ s0 → s0 ≤ fin + 1 → FU I_34 I1 L L1 → (∃ w, I1 0 7 = b2i w) → I1 0 40 = nI t0 → mfS (aN A) (aV A g) (aV A cn) fin (fin + 1 - s0) t0 = mfS (aN A) (aV A g) (aV A cn) fin fin 0 → J p l e (rmD 8) s m args below meth c (MQ below (QI G rg (fun r I1 L1 => r = underR A x y z ∧ RM (underS A x y z) I1 L1)) args s 0 0 (rg_A G rg)) 6 G rg 0 0 I1 L1 40 [some (.ref (gB G + 0)), some (.int x), some (.int y), some (.int z), some (.int (nI s0)), none] [] := by
          intro fuel
          induction fuel with
          | zero => intro s0 t0 I1 L1 h1 h2 h3 hF h7 hTr hS; exfalso; omega
          | succ fuel ih_lp =>
            intro s0 t0 I1 L1 h1 h2 h3 hF h7 hTr hS
            refine j_iload C dX7_under_40 rfl ?_
            refine j_iload_n C dX7_under_42 rfl rfl ?_
            refine t_i hz ?_
            first | refine n_icmp_gt (tgt := 127) C (by omega) (by omega) dX7_under_43 (by decide) (fun h_43 => ?_) (fun h_43 => ?_) | refine j_icmp_gt (tgt := 127) C dX7_under_43 (by decide) (fun h_43 => ?_) (fun h_43 => ?_)
            · refine j_aload_n C dX7_under_127 rfl rfl ?_
              refine j_aload_n C dX7_under_128 rfl rfl ?_
              refine g_cvI C vc_X7_276 (c_X7_isThere l G rg _ _ (aN A) g cn (aV A g) (aV A cn) hms ((hF.2.1 0 (by decide) (by decide) (by decide) (by decide) (by decide) (by decide)).trans ((b1 0 (by decide) (by decide) (by decide)).trans mN)) (by omega) k1 ((hF.2.1 36 (by decide) (by decide) (by decide) (by decide) (by decide) (by decide)).trans (b36.trans hx)) ((hF.2.1 37 (by decide) (by decide) (by decide) (by decide) (by decide) (by decide)).trans (b37.trans hy)) (by omega) (by omega) (fun k hk => by rw [hF.1 1 (by decide) (by decide) (by decide) (by decide), b0 1 (by decide)]; exact mV g k (by omega) hk) (fun k hk => by rw [hF.1 1 (by decide) (by decide) (by decide) (by decide), b0 1 (by decide)]; exact mV cn k (by omega) hk)) ⟨Nat.le_of_ble_eq_true rfl, Nat.le_of_ble_eq_true rfl⟩ (o0) rfl rfl (Nat.le_of_ble_eq_true rfl) ⟨Nat.zero_le _, Nat.zero_le _⟩ dX7_under_129 (fun r_129 I_129 L_129 p_129 => ?_)
              obtain ⟨g1, g2, ⟨rfl, t, hwt, hP⟩ | ⟨rfl, hwt⟩⟩ := p_129
              · refine j_if_eq (tgt := 139) C dX7_under_132 (by decide) (fun h_132 => ?_) (fun h_132 => ?_)
                · exact absurd h_132 (by decide)
                · refine j_iconst (v := nI 0) C dX7_under_135 (by decide) ?_
                  refine j_goto (tgt := 140) C dX7_under_136 (by decide) ?_
                  refine g_cvI C vc_X7_264 (c_X7_end l G rg _ _ _ hms (by decide)) ⟨Nat.le_of_ble_eq_true rfl, Nat.le_of_ble_eq_true rfl⟩ (o0) rfl rfl (Nat.le_of_ble_eq_true rfl) ⟨Nat.zero_le _, Nat.zero_le _⟩ dX7_under_140 (fun r_140 I_140 L_140 p_140 => ?_)
                  obtain ⟨rfl, rfl, n0, n1, n35, n14, n32⟩ := p_140
                  have hRe : R = (t0, none) := by rw [hR, ← hS, show fin + 1 - s0 = 0 by omega]; rfl
                  have hU := unQ_2 (n := aN A) (g := aV A g) (c := aV A cn) (r := R) (by rw [hRe]) hwt
                  rw [hU] at hur hus
                  rw [hRe] at hus
                  have zz : ∀ k, (k = 0 ∨ k = 1 ∨ k = 3 ∨ k = 8 ∨ k = 36 ∨ k = 37) → I_140 0 k = I_34 0 k := fun k hk => by rw [n1 k (by omega) (by omega) (by omega), g1 0 (by decide)]; exact hF.2.1 k (by omega) (by omega) (by omega) (by omega) (by omega) (by omega)
                  refine j_iret C hr dX7_under_143 ⟨hur.symm, ?_⟩
                  rw [hus]
                  refine RM_told hRM (show (0 : Nat) ≤ 2 by decide) ((zz 0 (by omega)).trans (b1 0 (by decide) (by decide) (by decide))) ((zz 1 (by omega)).trans (b1 1 (by decide) (by decide) (by decide))) ((zz 8 (by omega)).trans (b1 8 (by decide) (by decide) (by decide))) ((zz 3 (by omega)).trans b3) ?_ n35 n14 ⟨(zz 36 (by omega)).trans b36, (zz 37 (by omega)).trans b37, ?_, ?_, ?_⟩ n32 ?_ (fun Y hY => by cases hY; exact hP) (fun e1 => absurd (show (0 : Nat) = 1 from e1) (by decide))
                  · rw [n0 1 (by decide), g1 1 (by decide), hF.1 1 (by decide) (by decide) (by decide) (by decide), b0 1 (by decide)]
                  · rw [n1 38 (by decide) (by decide) (by decide), g1 0 (by decide), hF.2.1 38 (by decide) (by decide) (by decide) (by decide) (by decide) (by decide)]; exact b38
                  · rw [n1 39 (by decide) (by decide) (by decide), g1 0 (by decide), hF.2.1 39 (by decide) (by decide) (by decide) (by decide) (by decide) (by decide)]; exact b39
                  · rw [n1 40 (by decide) (by decide) (by decide), g1 0 (by decide)]; exact hTr
                  · obtain ⟨w, hw⟩ := h7; exact ⟨w, by rw [n1 7 (by decide) (by decide) (by decide), g1 0 (by decide)]; exact hw⟩
              · refine j_if_eq (tgt := 139) C dX7_under_132 (by decide) (fun h_132 => ?_) (fun h_132 => ?_)
                · refine j_iconst (v := nI 2) C dX7_under_139 (by decide) ?_
                  refine g_cvI C vc_X7_264 (c_X7_end l G rg _ _ _ hms (by decide)) ⟨Nat.le_of_ble_eq_true rfl, Nat.le_of_ble_eq_true rfl⟩ (o0) rfl rfl (Nat.le_of_ble_eq_true rfl) ⟨Nat.zero_le _, Nat.zero_le _⟩ dX7_under_140 (fun r_140 I_140 L_140 p_140 => ?_)
                  obtain ⟨rfl, rfl, n0, n1, n35, n14, n32⟩ := p_140
                  have hRe : R = (t0, none) := by rw [hR, ← hS, show fin + 1 - s0 = 0 by omega]; rfl
                  have hU := unQ_3 (n := aN A) (g := aV A g) (c := aV A cn) (r := R) (by rw [hRe]) hwt
                  rw [hU] at hur hus
                  rw [hRe] at hus
                  have zz : ∀ k, (k = 0 ∨ k = 1 ∨ k = 3 ∨ k = 8 ∨ k = 36 ∨ k = 37) → I_140 0 k = I_34 0 k := fun k hk => by rw [n1 k (by omega) (by omega) (by omega), g1 0 (by decide)]; exact hF.2.1 k (by omega) (by omega) (by omega) (by omega) (by omega) (by omega)
                  refine j_iret C hr dX7_under_143 ⟨hur.symm, ?_⟩
                  rw [hus]
                  refine RM_told hRM (show (2 : Nat) ≤ 2 by decide) ((zz 0 (by omega)).trans (b1 0 (by decide) (by decide) (by decide))) ((zz 1 (by omega)).trans (b1 1 (by decide) (by decide) (by decide))) ((zz 8 (by omega)).trans (b1 8 (by decide) (by decide) (by decide))) ((zz 3 (by omega)).trans b3) ?_ n35 n14 ⟨(zz 36 (by omega)).trans b36, (zz 37 (by omega)).trans b37, ?_, ?_, ?_⟩ n32 ?_ (fun Y hY => by cases hY) (fun e1 => absurd (show (2 : Nat) = 1 from e1) (by decide))
                  · rw [n0 1 (by decide), g1 1 (by decide), hF.1 1 (by decide) (by decide) (by decide) (by decide), b0 1 (by decide)]
                  · rw [n1 38 (by decide) (by decide) (by decide), g1 0 (by decide), hF.2.1 38 (by decide) (by decide) (by decide) (by decide) (by decide) (by decide)]; exact b38
                  · rw [n1 39 (by decide) (by decide) (by decide), g1 0 (by decide), hF.2.1 39 (by decide) (by decide) (by decide) (by decide) (by decide) (by decide)]; exact b39
                  · rw [n1 40 (by decide) (by decide) (by decide), g1 0 (by decide)]; exact hTr
                  · obtain ⟨w, hw⟩ := h7; exact ⟨w, by rw [n1 7 (by decide) (by decide) (by decide), g1 0 (by decide)]; exact hw⟩
                · exact absurd rfl h_132
            · refine j_iconst (v := nI 1) C dX7_under_46 (by decide) ?_
              refine j_istore C dX7_under_47 (by decide) ?_
              have lq : ∀ (fuel : Nat) (q0 t : Nat) (I1 : II) (L1 : LL), s0 + 1 < fuel + q0 → 1 ≤ q0 → q0 ≤ s0 + 1 → FU I_34 I1 L L1 → (∃ w, I1 0 7 = b2i w) → I1 0 40 = nI t → mfQ (aN A) (aV A g) (aV A cn) s0 (s0 + 1 - q0) t = mfQ (aN A) (aV A g) (aV A cn) s0 s0 t0 → J p l e (rmD 8) s m args below meth c (MQ below (QI G rg (fun r I1 L1 => r = underR A x y z ∧ RM (underS A x y z) I1 L1)) args s 0 0 (rg_A G rg)) 6 G rg 0 0 I1 L1 49 [some (.ref (gB G + 0)), some (.int x), some (.int y), some (.int z), some (.int (nI s0)), some (.int (nI q0))] [] := by
                intro fuel
                induction fuel with
                | zero => intro q0 t I1 L1 u1 u2 u3 hF h7 hTr hQ; exfalso; omega
                | succ fuel ih_lq =>
                  intro q0 t I1 L1 u1 u2 u3 hF h7 hTr hQ
                  refine j_iload C dX7_under_49 rfl ?_
                  refine j_iload C dX7_under_51 rfl ?_
                  first | refine n_icmp_gt (tgt := 121) C (by omega) (by omega) dX7_under_53 (by decide) (fun h_53 => ?_) (fun h_53 => ?_) | refine j_icmp_gt (tgt := 121) C dX7_under_53 (by decide) (fun h_53 => ?_) (fun h_53 => ?_)
                  · first | refine n_iinc (n := 1) C dX7_under_121 rfl (by decide) ?_ | refine j_iinc C dX7_under_121 rfl rfl (by decide) ?_
                    refine j_goto (tgt := 40) C dX7_under_124 (by decide) ?_
                    refine j_rm 5 ?_
                    exact ih_lp (s0 + 1) t I1 L1 (by omega) (by omega) (by omega) hF h7 hTr ((mfS_nx (by omega) (by rw [← hQ, show s0 + 1 - q0 = 0 by omega]; rfl)).symm.trans hS)
                  · refine j_aload_n C dX7_under_56 rfl rfl ?_
                    refine j_iload C dX7_under_57 rfl ?_
                    refine j_iload C dX7_under_59 rfl ?_
                    first | refine n_isub C (by omega) dX7_under_61 ?_ | refine j_isub C dX7_under_61 ?_
                    refine j_iload C dX7_under_62 rfl ?_
                    refine g_cvI C vc_X7_269 (c_X7_isLowest l G rg _ _ (s0 - q0) q0 (by omega) (by omega)) ⟨Nat.le_of_ble_eq_true rfl, Nat.le_of_ble_eq_true rfl⟩ (o0) rfl rfl (Nat.le_of_ble_eq_true rfl) ⟨Nat.zero_le _, Nat.zero_le _⟩ dX7_under_64 (fun r_64 I_64 L_64 p_64 => ?_)
                    obtain ⟨rfl, rfl, rfl⟩ := p_64
                    first | refine n_if_eq (tgt := 115) C dX7_under_67 (by decide) (fun h_67 => ?_) (fun h_67 => ?_) | refine j_if_eq (tgt := 115) C dX7_under_67 (by decide) (fun h_67 => ?_) (fun h_67 => ?_)
                    · first | refine n_iinc (n := 1) C dX7_under_115 rfl (by decide) ?_ | refine j_iinc C dX7_under_115 rfl rfl (by decide) ?_
                      refine j_goto (tgt := 49) C dX7_under_118 (by decide) ?_
                      first
                      | (have g5 : decide (Nat.gcd (s0 - q0) q0 = 1) = false := h_67; exact ih_lq (q0 + 1) t _ _ (by omega) (by omega) (by omega) hF h7 hTr ((mfQ_no (by omega) (of_decide_eq_false h_67)).symm.trans hQ))
                      | exact ih_lq (q0 + 1) (t + 1) _ _ (by omega) (by omega) (by omega) (hF.st hFD) h7b (by rw [hFD.2.1 40 (by decide) (by decide) (by decide) (by decide) (by decide), up2_at, if_pos rfl, if_pos rfl]) ((mfQ_nx (by omega) hgc hdo).symm.trans hQ)
                    · refine j_aload_n C dX7_under_70 rfl rfl ?_
                      refine j_dup C dX7_under_71 rfl ?_
                      refine g_getI C (o0) fl_X7_248 (by rfl) dX7_under_72 ?_
                      refine t_i hTr ?_
                      refine j_iconst (v := nI 1) C dX7_under_75 (by decide) ?_
                      first | refine n_iadd C dX7_under_76 ?_ | refine j_iadd C dX7_under_76 ?_
                      refine g_putI C (o0) fw_X7_248 (by rfl) rfl (fits_int _) dX7_under_77 ?_
                      have hgc : Nat.gcd (s0 - q0) q0 = 1 := of_decide_eq_true h_67
                      refine j_aload_n C dX7_under_80 rfl rfl ?_
                      refine j_iload C dX7_under_81 rfl ?_
                      refine j_iload C dX7_under_83 rfl ?_
                      first | refine n_isub C (by omega) dX7_under_85 ?_ | refine j_isub C dX7_under_85 ?_
                      refine j_iload C dX7_under_86 rfl ?_
                      refine g_cvI C vc_X7_273 (c_X7_isDoneBy l G rg _ _ (aN A) g cn (s0 - q0) q0 (aV A g) (aV A cn) hms (by rw [up2_at, if_pos rfl, if_neg (by decide), hF.2.1 0 (by decide) (by decide) (by decide) (by decide) (by decide) (by decide)]; exact (b1 0 (by decide) (by decide) (by decide)).trans mN) (by omega) (by rw [up2_at, if_pos rfl, if_neg (by decide), hF.2.1 8 (by decide) (by decide) (by decide) (by decide) (by decide) (by decide)]; exact (b1 8 (by decide) (by decide) (by decide)).trans m8) (by rw [up2_at, if_pos rfl, if_neg (by decide), hF.2.1 36 (by decide) (by decide) (by decide) (by decide) (by decide) (by decide)]; exact b36.trans hx) (by rw [up2_at, if_pos rfl, if_neg (by decide), hF.2.1 37 (by decide) (by decide) (by decide) (by decide) (by decide) (by decide)]; exact b37.trans hy) (by omega) (by omega) (fun k hk => by rw [up2_ne _ (by decide), hF.1 1 (by decide) (by decide) (by decide) (by decide), b0 1 (by decide)]; exact mV g k (by omega) hk) (fun k hk => by rw [up2_ne _ (by decide), hF.1 1 (by decide) (by decide) (by decide) (by decide), b0 1 (by decide)]; exact mV cn k (by omega) hk) (by omega) (by omega) (by omega) hgc) ⟨Nat.le_of_ble_eq_true rfl, Nat.le_of_ble_eq_true rfl⟩ (o0) rfl rfl (Nat.le_of_ble_eq_true rfl) ⟨Nat.zero_le _, Nat.zero_le _⟩ dX7_under_88 (fun r_88 I_88 L_88 p_88 => ?_)
                      obtain ⟨hFD, h7b, ⟨rfl, E, M, hdo, h14, hRX, hFi⟩ | ⟨rfl, hdo⟩⟩ := p_88
                      · refine j_if_eq (tgt := 115) C dX7_under_91 (by decide) (fun h_91 => ?_) (fun h_91 => ?_)
                        · exact absurd h_91 (by decide)
                        · refine j_aload_n C dX7_under_94 rfl rfl ?_
                          refine j_iload C dX7_under_95 rfl ?_
                          refine j_iload C dX7_under_97 rfl ?_
                          first | refine n_isub C (by omega) dX7_under_99 ?_ | refine j_isub C dX7_under_99 ?_
                          refine g_putI C (o0) fw_X7_242 (by rfl) rfl (fits_int _) dX7_under_100 ?_
                          refine j_aload_n C dX7_under_103 rfl rfl ?_
                          refine j_iload C dX7_under_104 rfl ?_
                          refine g_putI C (o0) fw_X7_245 (by rfl) rfl (fits_int _) dX7_under_106 ?_
                          refine j_aload_n C dX7_under_109 rfl rfl ?_
                          refine j_iconst (v := nI 1) C dX7_under_110 (by decide) ?_
                          refine g_cvI C vc_X7_264 (c_X7_end l G rg _ _ 1 hms (by omega)) ⟨Nat.le_of_ble_eq_true rfl, Nat.le_of_ble_eq_true rfl⟩ (o0) rfl rfl (Nat.le_of_ble_eq_true rfl) ⟨Nat.zero_le _, Nat.zero_le _⟩ dX7_under_111 (fun r_111 I_111 L_111 p_111 => ?_)
                          obtain ⟨rfl, rfl, n0, n1, n35, n14, n32⟩ := p_111
                          have hRe : R = (t + 1, some (s0 - q0, q0, E, M)) := by rw [hR, ← hS]; exact mfS_hit (by omega) (hQ.symm.trans (mfQ_hit (by omega) hgc hdo))
                          have hU := unQ_1 (n := aN A) (g := aV A g) (c := aV A cn) (r := R) (p := s0 - q0) (q := q0) (E := E) (M := M) (by rw [hRe])
                          rw [hU] at hur hus
                          rw [hRe] at hus
                          have zz : ∀ k, (k = 0 ∨ k = 1 ∨ k = 3 ∨ k = 8 ∨ k = 36 ∨ k = 37) → I_111 0 k = I_34 0 k := fun k hk => by rw [n1 k (by omega) (by omega) (by omega), up2_at, if_pos rfl, if_neg (by omega), up2_at, if_pos rfl, if_neg (by omega), hFD.2.1 k (by omega) (by omega) (by omega) (by omega) (by omega), up2_at, if_pos rfl, if_neg (by omega)]; exact hF.2.1 k (by omega) (by omega) (by omega) (by omega) (by omega) (by omega)
                          refine j_iret C hr dX7_under_114 ⟨hur.symm, ?_⟩
                          rw [hus]
                          refine RM_told hRM (show (1 : Nat) ≤ 2 by decide) ((zz 0 (by omega)).trans (b1 0 (by decide) (by decide) (by decide))) ((zz 1 (by omega)).trans (b1 1 (by decide) (by decide) (by decide))) ((zz 8 (by omega)).trans (b1 8 (by decide) (by decide) (by decide))) ((zz 3 (by omega)).trans b3) ?_ n35 ?_ ⟨(zz 36 (by omega)).trans b36, (zz 37 (by omega)).trans b37, ?_, ?_, ?_⟩ n32 ?_ (fun Y hY => by cases hY) (fun _ => ⟨hRX.cong ?_ ?_ ?_ (fun _ _ _ => rfl), hFi⟩)
                          · rw [n0 1 (by decide), up2_ne _ (by decide), up2_ne _ (by decide), hFD.1 1 (by decide) (by decide) (by decide) (by decide), up2_ne _ (by decide), hF.1 1 (by decide) (by decide) (by decide) (by decide), b0 1 (by decide)]
                          · rw [n14, if_pos rfl, if_pos rfl, up2_at, if_pos rfl, if_neg (by decide), up2_at, if_pos rfl, if_neg (by decide)]; exact h14
                          · rw [n1 38 (by decide) (by decide) (by decide), up2_at, if_pos rfl, if_neg (by decide), up2_at, if_pos rfl, if_pos rfl]
                          · rw [n1 39 (by decide) (by decide) (by decide), up2_at, if_pos rfl, if_pos rfl]
                          · rw [n1 40 (by decide) (by decide) (by decide), up2_at, if_pos rfl, if_neg (by decide), up2_at, if_pos rfl, if_neg (by decide), hFD.2.1 40 (by decide) (by decide) (by decide) (by decide) (by decide), up2_at, if_pos rfl, if_pos rfl]
                          · obtain ⟨w, hw⟩ := h7b; exact ⟨w, by rw [n1 7 (by decide) (by decide) (by decide), up2_at, if_pos rfl, if_neg (by decide), up2_at, if_pos rfl, if_neg (by decide)]; exact hw⟩
                          · rw [n0 7 (by decide), up2_ne _ (by decide), up2_ne _ (by decide)]
                          · rw [n0 8 (by decide), up2_ne _ (by decide), up2_ne _ (by decide)]
                          · rw [n0 13 (by decide), up2_ne _ (by decide), up2_ne _ (by decide)]
                      · refine j_if_eq (tgt := 115) C dX7_under_91 (by decide) (fun h_91 => ?_) (fun h_91 => ?_)
                        · first | refine n_iinc (n := 1) C dX7_under_115 rfl (by decide) ?_ | refine j_iinc C dX7_under_115 rfl rfl (by decide) ?_
                          refine j_goto (tgt := 49) C dX7_under_118 (by decide) ?_
                          first
                          | (have g5 : decide (Nat.gcd (s0 - q0) q0 = 1) = false := h_67; exact ih_lq (q0 + 1) t _ _ (by omega) (by omega) (by omega) hF h7 hTr ((mfQ_no (by omega) (of_decide_eq_false h_67)).symm.trans hQ))
                          | exact ih_lq (q0 + 1) (t + 1) _ _ (by omega) (by omega) (by omega) (hF.st hFD) h7b (by rw [hFD.2.1 40 (by decide) (by decide) (by decide) (by decide) (by decide), up2_at, if_pos rfl, if_pos rfl]) ((mfQ_nx (by omega) hgc hdo).symm.trans hQ)
                        · exact absurd rfl h_91
              exact lq (s0 + 2) 1 t0 I1 L1 (by omega) (by omega) (by omega) hF h7 hTr rfl
        exact lp (fin + 2) 1 0 I_34 L (by omega) (by omega) (by omega) FU.rf (by obtain ⟨w, hw⟩ := m7; exact ⟨w, (b1 7 (by decide) (by decide) (by decide)).trans hw⟩) b40 rfl
      · refine j_iconst (v := (-1)) C dX7_under_29 (by decide) ?_
        exact j_iret C hr dX7_under_30 (by have hb : ¬ unOk A x y z := (by first | exact ub1 h_5 | exact ub2 h_13 | exact ub34 h_26); unfold underR underS; rw [cif_f hb, cif_f hb]; exact ⟨rfl, hRM⟩)
