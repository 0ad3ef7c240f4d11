/-! ===== the model: prove ===== -/
theorem RM_told {A : AS} {I I1 : II} {L L1 : LL} {c : Nat} {E : ES} {X : Option (Nat → Fr)} {M : Nat → Nat → Fr} {f g u d t : Int32} (h : RM A I L) (hc : c ≤ 2) (i0 : I1 0 0 = I 0 0) (i1 : I1 0 1 = I 0 1) (i8 : I1 0 8 = I 0 8) (i3 : I1 0 3 = nI (aP A + 1)) (hV : I1 1 = I 1) (h35 : I1 0 35 = nI c) (h14 : I1 0 14 = if c = 1 then nI (eS E) else 0) (h36 : I1 0 36 = f ∧ I1 0 37 = g ∧ I1 0 38 = u ∧ I1 0 39 = d ∧ I1 0 40 = t) (h32 : I1 0 32 = b2i X.isSome) (h7 : ∃ w, I1 0 7 = b2i w) (hX : ∀ Y, X = some Y → ∀ k, 1 ≤ k → k ≤ aN A → (L1 21 k, L1 22 k) = Y k) (hE : c = 1 → RelX (aN A) I1 L1 E ∧ ∀ i j, i ≤ aN A → j ≤ aN A → (L1 5 (5 * i + j), L1 6 (5 * i + j)) = M i j) : RM (toldS A c E X M f g u d t) I1 L1 := by
  obtain ⟨mN, mF, mP, mV, mA, mS, mT, mH, m8, m7, mX, mE⟩ := h
  refine ⟨i0.trans mN, i1.trans mF, i3, fun f k hf hk => by rw [hV]; exact mV f k hf hk, ?_, h14, fun _ => h36, h32, i8.trans m8, h7, hX, fun q => ?_⟩
  · show I1 0 35 = if aP A + 1 = 0 then -1 else nI c
    rw [if_neg (by omega)]; exact h35
  · have q2 : nI c = 1 := q
    apply hE
    rcases (show c = 0 ∨ c = 1 ∨ c = 2 by omega) with e | e | e
    · rw [e] at q2; exact absurd q2 (by decide)
    · exact e
    · rw [e] at q2; exact absurd q2 (by decide)
theorem prvQ_a {n : Nat} {f : Nat → Int32} {kk : Nat} {jo : Option Nat} {E : ES} {X : Nat → Fr} (h : pfO n f kk jo E = some X) : prvQ n f (0, kk, jo, E) = (0, E, some X) := by unfold prvQ; rw [if_pos rfl]; simp only [h]
theorem prvQ_b {n : Nat} {f : Nat → Int32} {kk : Nat} {jo : Option Nat} {E : ES} (h : pfO n f kk jo E = none) : prvQ n f (0, kk, jo, E) = (2, E, none) := by unfold prvQ; rw [if_pos rfl]; simp only [h]
theorem prvQ_c {n : Nat} {f : Nat → Int32} {c kk : Nat} {jo : Option Nat} {E : ES} (h : ¬ c = 0) : prvQ n f (c, kk, jo, E) = (c, E, none) := by unfold prvQ; rw [if_neg h]
theorem nc_0 {c : Nat} (h : c ≤ 2) : nI c = 0 ↔ c = 0 := by
  rcases (show c = 0 ∨ c = 1 ∨ c = 2 by omega) with e | e | e <;> subst e <;> decide
set_option maxHeartbeats 4000000 in
set_option maxRecDepth 20000 in
theorem c_X7_prove (l : Launch) (G : GT) (rg : RgT) (I : II) (L : LL) (A : AS) (x : Int32) (hms : isMS rg) (hRM : RM A I L) (hok : aok A) : CtI l yX7_prove cX7_prove 3 (some FieldType.int) 8 G rg I L [.ref (gB G + 0), .int x] (fun r I1 L1 => r = proveR A x ∧ RM (proveS A x) I1 L1) := by
  refine ctI_of [some (.ref (gB G + 0)), some (.int x), none] rfl (Nat.le_of_ble_eq_true rfl) (by decide) ?_
  intro p e s m args below meth c C hr
  obtain ⟨o0, a1, a2, a3, a4, a5, a6, a7, a8, a9, a10, a11, a12, a13, a14, a15, a16, a17, a18, a19, a20, a21, a22, a23, a24, a25, a26⟩ := id hms
  obtain ⟨mN, mF, mP, mV, mA, mS, mT, mH, m8, m7, mX, mE⟩ := id hRM
  obtain ⟨k1, k4, k12, kT, kT0, kP⟩ := id hok
  refine j_aload_n C dX7_prove_0 rfl rfl ?_
  refine j_iload_n C dX7_prove_1 rfl rfl ?_
  refine g_cvI C vc_X7_116 (c_X7_isForm l G rg _ _ (aF A) x hms mF (by omega)) ⟨Nat.le_of_ble_eq_true rfl, Nat.le_of_ble_eq_true rfl⟩ (o0) rfl rfl (Nat.le_of_ble_eq_true rfl) ⟨Nat.zero_le _, Nat.zero_le _⟩ dX7_prove_2 (fun r_2 I_2 L_2 p_2 => ?_)
  obtain ⟨rfl, rfl, rfl⟩ := p_2
  first | refine n_if_ne (tgt := 10) C dX7_prove_5 (by decide) (fun h_5 => ?_) (fun h_5 => ?_) | refine j_if_ne (tgt := 10) C dX7_prove_5 (by decide) (fun h_5 => ?_) (fun h_5 => ?_)
  · obtain ⟨hx, hxn⟩ := okF_t h_5
    obtain ⟨fm, hfe⟩ : ∃ g, g = x.toNatClampNeg := ⟨_, rfl⟩
    have hpr : proveR A x = nI (prvO (aN A) (aV A fm) (mxF A fm)).1 := by unfold proveR; rw [h_5, hfe]; rfl
    have hps : proveS A x = toldS A (prvO (aN A) (aV A fm) (mxF A fm)).1 (prvO (aN A) (aV A fm) (mxF A fm)).2.1 (prvO (aN A) (aV A fm) (mxF A fm)).2.2 (mxF A fm) x (-1) 0 1 0 := by unfold proveS; rw [h_5, hfe]; rfl
    rw [← hfe] at hx hxn
    refine j_aload_n C dX7_prove_10 rfl rfl ?_
    refine j_iload_n C dX7_prove_11 rfl rfl ?_
    refine j_iconst (v := (-1)) C dX7_prove_12 (by decide) ?_
    refine g_cvV C vc_X7_251 (c_X7_beginProof l G rg _ _ (aP A) x (-1) hms mP) ⟨Nat.le_of_ble_eq_true rfl, Nat.le_of_ble_eq_true rfl⟩ (o0) rfl rfl (Nat.le_of_ble_eq_true rfl) ⟨Nat.zero_le _, Nat.zero_le _⟩ dX7_prove_13 (fun I_13 L_13 p_13 => ?_)
    obtain ⟨rfl, b0, b1, b3, b32, b36, b37, b38, b39, b40⟩ := p_13
    refine j_aload_n C dX7_prove_16 rfl rfl ?_
    refine j_iload_n C dX7_prove_17 rfl rfl ?_
    refine t_i hx ?_
    refine g_cvV C vc_X7_215 (c_X7_matrix l G rg _ _ (aN A) fm (aV A fm) hms ((b1 0 (by decide) (by decide) (by decide)).trans mN) (by omega) (by omega) (fun k hk => by rw [b0 1 (by decide)]; exact mV fm k (by omega) hk)) ⟨Nat.le_of_ble_eq_true rfl, Nat.le_of_ble_eq_true rfl⟩ (o0) rfl rfl (Nat.le_of_ble_eq_true rfl) ⟨Nat.zero_le _, Nat.zero_le _⟩ dX7_prove_18 (fun I_18 L_18 p_18 => ?_)
    obtain ⟨c1, c2, c3, c4⟩ := p_18
    refine j_aload_n C dX7_prove_21 rfl rfl ?_
    refine g_cvV C vc_X7_254 (c_X7_keepMatrix l G rg _ _ hms) ⟨Nat.le_of_ble_eq_true rfl, Nat.le_of_ble_eq_true rfl⟩ (o0) rfl rfl (Nat.le_of_ble_eq_true rfl) ⟨Nat.zero_le _, Nat.zero_le _⟩ dX7_prove_22 (fun I_22 L_22 p_22 => ?_)
    obtain ⟨rfl, d1, d2⟩ := p_22
    have c10 : I_18 0 = I_13 0 := c1 0 (by decide)
    refine j_aload_n C dX7_prove_25 rfl rfl ?_
    refine g_cvI C vc_X7_257 (c_X7_eliminate l G rg _ _ (aN A) (mxF A fm) hms (by rw [c10]; exact (b1 0 (by decide) (by decide) (by decide)).trans mN) (by omega) (by rw [c10]; exact (b1 8 (by decide) (by decide) (by decide)).trans m8) c3 (MQm.cong c4 (d1 3 (by decide) (by decide)) (d1 4 (by decide) (by decide))) (fun i j _ _ => hv_WF _ i j)) ⟨Nat.le_of_ble_eq_true rfl, Nat.le_of_ble_eq_true rfl⟩ (o0) rfl rfl (Nat.le_of_ble_eq_true rfl) ⟨Nat.zero_le _, Nat.zero_le _⟩ dX7_prove_26 (fun r_26 I_26 L_26 p_26 => ?_)
    obtain ⟨hFM, cc, kk, jo, E, w, hel, rfl, h7, hwt, hwf, h0⟩ := p_26
    obtain ⟨hEW, hEI, hk0, hc2⟩ := elim_EW (EW_0 (fun i j hi hj => hv_WF _ i j)) (EI_0 (aN A) (mxF A fm)) hel
    have hpo : prvO (aN A) (aV A fm) (mxF A fm) = prvQ (aN A) (aV A fm) (cc, kk, jo, E) := by unfold prvO; rw [hel]
    rw [hpo] at hpr hps
    have f0 : ∀ k, k ≠ 7 → k ≠ 14 → k ≠ 21 → k ≠ 22 → k ≠ 23 → I_26 0 k = I_13 0 k := fun k a b c d e => by rw [hFM.2.1 k a b c d e, c10]
    have f1 : I_26 1 = I 1 := by rw [hFM.1 1 (by decide) (by decide) (by decide) (by decide), c1 1 (by decide), b0 1 (by decide)]
    have f5 : ∀ i j, i ≤ aN A → j ≤ aN A → (L_26 5 (5 * i + j), L_26 6 (5 * i + j)) = mxF A fm i j := fun i j hi hj => by rw [hFM.2.2 5 (by decide) (by decide) (by decide) (by decide), hFM.2.2 6 (by decide) (by decide) (by decide) (by decide), d2 _ (by omega)]; exact c4 i j hi hj
    refine j_istore_n C dX7_prove_29 rfl (by decide) ?_
    refine j_iload_n C dX7_prove_30 rfl rfl ?_
    refine j_if_ne (tgt := 48) C dX7_prove_31 (by decide) (fun h_31 => ?_) (fun h_31 => ?_)
    · refine j_aload_n C dX7_prove_48 rfl rfl ?_
      refine j_iload_n C dX7_prove_49 rfl rfl ?_
      refine g_cvI C vc_X7_264 (c_X7_end l G rg _ _ _ hms (by omega)) ⟨Nat.le_of_ble_eq_true rfl, Nat.le_of_ble_eq_true rfl⟩ (o0) rfl rfl (Nat.le_of_ble_eq_true rfl) ⟨Nat.zero_le _, Nat.zero_le _⟩ dX7_prove_50 (fun r_50 I_50 L_50 p_50 => ?_)
      obtain ⟨rfl, rfl, n0, n1, n35, n14, n32⟩ := p_50
      rw [prvQ_c (fun z => h_31 ((nc_0 hc2).mpr z))] at hpr hps
      refine j_iret C hr dX7_prove_53 ⟨hpr.symm, ?_⟩
      rw [hps]
      have hn32 : b2i (decide (cc = 0)) = b2i (Option.isSome (none : Option (Nat → Fr))) := by rw [decide_eq_false (fun z => h_31 ((nc_0 hc2).mpr z))]; rfl
      exact RM_told hRM (by omega) ((n1 0 (by decide) (by decide) (by decide)).trans (((f0 0 (by decide) (by decide) (by decide) (by decide) (by decide)).trans (b1 0 (by decide) (by decide) (by decide))))) ((n1 1 (by decide) (by decide) (by decide)).trans (((f0 1 (by decide) (by decide) (by decide) (by decide) (by decide)).trans (b1 1 (by decide) (by decide) (by decide))))) ((n1 8 (by decide) (by decide) (by decide)).trans (((f0 8 (by decide) (by decide) (by decide) (by decide) (by decide)).trans (b1 8 (by decide) (by decide) (by decide))))) ((n1 3 (by decide) (by decide) (by decide)).trans (((f0 3 (by decide) (by decide) (by decide) (by decide) (by decide)).trans b3))) (by rw [n0 1 (by decide)]; exact f1) n35 (by rw [n14]; by_cases e1 : cc = 1; (subst e1; have hwF : w = false := (by cases w with | false => rfl | true => exact absurd (hwt rfl) (by decide)); rw [if_pos rfl, if_pos rfl]; exact (hwf hwF).2.1); (rw [if_neg e1, if_neg e1])) ⟨((n1 36 (by decide) (by decide) (by decide)).trans (((f0 36 (by decide) (by decide) (by decide) (by decide) (by decide)).trans b36))), ((n1 37 (by decide) (by decide) (by decide)).trans (((f0 37 (by decide) (by decide) (by decide) (by decide) (by decide)).trans b37))), ((n1 38 (by decide) (by decide) (by decide)).trans (((f0 38 (by decide) (by decide) (by decide) (by decide) (by decide)).trans b38))), ((n1 39 (by decide) (by decide) (by decide)).trans (((f0 39 (by decide) (by decide) (by decide) (by decide) (by decide)).trans b39))), ((n1 40 (by decide) (by decide) (by decide)).trans (((f0 40 (by decide) (by decide) (by decide) (by decide) (by decide)).trans b40)))⟩ (n32.trans hn32) ⟨_, (n1 7 (by decide) (by decide) (by decide)).trans h7⟩ (fun Y hY => by cases hY) (fun e1 => by subst e1; have hwF : w = false := (by cases w with | false => rfl | true => exact absurd (hwt rfl) (by decide)); obtain ⟨_, h14, hRX, hMQ⟩ := hwf hwF; exact ⟨hRX.cong (n0 7 (by decide)) (n0 8 (by decide)) (n0 13 (by decide)) (fun _ _ _ => rfl), f5⟩)
    · have hc0 : cc = 0 := (nc_0 hc2).mp h_31
      subst hc0
      have hwF : w = false := by cases w with | false => rfl | true => exact absurd (hwt rfl) (by decide)
      subst hwF
      obtain ⟨_, h14, hRX, hMQ⟩ := hwf rfl
      obtain ⟨hj1, hj2⟩ := h0 rfl
      obtain ⟨hkn, hjn⟩ := hk0 rfl
      refine j_aload_n C dX7_prove_34 rfl rfl ?_
      refine j_iload_n C dX7_prove_35 rfl rfl ?_
      refine t_i hx ?_
      refine g_cvI C vc_X7_261 (c_X7_pointBy l G rg _ _ (aN A) fm kk jo (aV A fm) E hms (((f0 0 (by decide) (by decide) (by decide) (by decide) (by decide)).trans (b1 0 (by decide) (by decide) (by decide))).trans mN) (by omega) h7 (((f0 8 (by decide) (by decide) (by decide) (by decide) (by decide)).trans (b1 8 (by decide) (by decide) (by decide))).trans m8) h14 (by have := hEI.2; omega) hRX hMQ hEW (by omega) (fun k hk => by rw [f1]; exact mV fm k (by omega) hk) hkn hjn hj1 hj2) ⟨Nat.le_of_ble_eq_true rfl, Nat.le_of_ble_eq_true rfl⟩ (o0) rfl rfl (Nat.le_of_ble_eq_true rfl) ⟨Nat.zero_le _, Nat.zero_le _⟩ dX7_prove_36 (fun r_36 I_36 L_36 p_36 => ?_)
      obtain ⟨⟨w1, rfl⟩, g1, ⟨rfl, X, hXe, hXX⟩ | ⟨rfl, hXe⟩⟩ := p_36
      · refine j_if_eq (tgt := 46) C dX7_prove_39 (by decide) (fun h_39 => ?_) (fun h_39 => ?_)
        · exact absurd h_39 (by decide)
        · refine j_iconst (v := nI 0) C dX7_prove_42 (by decide) ?_
          refine j_goto (tgt := 47) C dX7_prove_43 (by decide) ?_
          refine j_istore_n C dX7_prove_47 rfl (by decide) ?_
          refine j_aload_n C dX7_prove_48 rfl rfl ?_
          refine j_iload_n C dX7_prove_49 rfl rfl ?_
          refine g_cvI C vc_X7_264 (c_X7_end l G rg _ _ _ hms (by omega)) ⟨Nat.le_of_ble_eq_true rfl, Nat.le_of_ble_eq_true rfl⟩ (o0) rfl rfl (Nat.le_of_ble_eq_true rfl) ⟨Nat.zero_le _, Nat.zero_le _⟩ dX7_prove_50 (fun r_50 I_50 L_50 p_50 => ?_)
          obtain ⟨rfl, rfl, n0, n1, n35, n14, n32⟩ := p_50
          rw [prvQ_a hXe] at hpr hps
          refine j_iret C hr dX7_prove_53 ⟨hpr.symm, ?_⟩
          rw [hps]
          exact RM_told hRM (by omega) ((n1 0 (by decide) (by decide) (by decide)).trans ((setW_k _ _ (by decide : 0 ≠ 7)).trans ((f0 0 (by decide) (by decide) (by decide) (by decide) (by decide)).trans (b1 0 (by decide) (by decide) (by decide))))) ((n1 1 (by decide) (by decide) (by decide)).trans ((setW_k _ _ (by decide : 1 ≠ 7)).trans ((f0 1 (by decide) (by decide) (by decide) (by decide) (by decide)).trans (b1 1 (by decide) (by decide) (by decide))))) ((n1 8 (by decide) (by decide) (by decide)).trans ((setW_k _ _ (by decide : 8 ≠ 7)).trans ((f0 8 (by decide) (by decide) (by decide) (by decide) (by decide)).trans (b1 8 (by decide) (by decide) (by decide))))) ((n1 3 (by decide) (by decide) (by decide)).trans ((setW_k _ _ (by decide : 3 ≠ 7)).trans ((f0 3 (by decide) (by decide) (by decide) (by decide) (by decide)).trans b3))) (by rw [n0 1 (by decide), setW_q _ _ (by decide)]; exact f1) n35 n14 ⟨((n1 36 (by decide) (by decide) (by decide)).trans ((setW_k _ _ (by decide : 36 ≠ 7)).trans ((f0 36 (by decide) (by decide) (by decide) (by decide) (by decide)).trans b36))), ((n1 37 (by decide) (by decide) (by decide)).trans ((setW_k _ _ (by decide : 37 ≠ 7)).trans ((f0 37 (by decide) (by decide) (by decide) (by decide) (by decide)).trans b37))), ((n1 38 (by decide) (by decide) (by decide)).trans ((setW_k _ _ (by decide : 38 ≠ 7)).trans ((f0 38 (by decide) (by decide) (by decide) (by decide) (by decide)).trans b38))), ((n1 39 (by decide) (by decide) (by decide)).trans ((setW_k _ _ (by decide : 39 ≠ 7)).trans ((f0 39 (by decide) (by decide) (by decide) (by decide) (by decide)).trans b39))), ((n1 40 (by decide) (by decide) (by decide)).trans ((setW_k _ _ (by decide : 40 ≠ 7)).trans ((f0 40 (by decide) (by decide) (by decide) (by decide) (by decide)).trans b40)))⟩ n32 ⟨_, (n1 7 (by decide) (by decide) (by decide)).trans (setW_7 _ _)⟩ (fun Y hY => by cases hY; exact hXX) (fun e1 => absurd (show (0 : Nat) = 1 from e1) (by decide))
      · refine j_if_eq (tgt := 46) C dX7_prove_39 (by decide) (fun h_39 => ?_) (fun h_39 => ?_)
        · refine j_iconst (v := nI 2) C dX7_prove_46 (by decide) ?_
          refine j_istore_n C dX7_prove_47 rfl (by decide) ?_
          refine j_aload_n C dX7_prove_48 rfl rfl ?_
          refine j_iload_n C dX7_prove_49 rfl rfl ?_
          refine g_cvI C vc_X7_264 (c_X7_end l G rg _ _ _ hms (by omega)) ⟨Nat.le_of_ble_eq_true rfl, Nat.le_of_ble_eq_true rfl⟩ (o0) rfl rfl (Nat.le_of_ble_eq_true rfl) ⟨Nat.zero_le _, Nat.zero_le _⟩ dX7_prove_50 (fun r_50 I_50 L_50 p_50 => ?_)
          obtain ⟨rfl, rfl, n0, n1, n35, n14, n32⟩ := p_50
          rw [prvQ_b hXe] at hpr hps
          refine j_iret C hr dX7_prove_53 ⟨hpr.symm, ?_⟩
          rw [hps]
          exact RM_told hRM (by omega) ((n1 0 (by decide) (by decide) (by decide)).trans ((setW_k _ _ (by decide : 0 ≠ 7)).trans ((f0 0 (by decide) (by decide) (by decide) (by decide) (by decide)).trans (b1 0 (by decide) (by decide) (by decide))))) ((n1 1 (by decide) (by decide) (by decide)).trans ((setW_k _ _ (by decide : 1 ≠ 7)).trans ((f0 1 (by decide) (by decide) (by decide) (by decide) (by decide)).trans (b1 1 (by decide) (by decide) (by decide))))) ((n1 8 (by decide) (by decide) (by decide)).trans ((setW_k _ _ (by decide : 8 ≠ 7)).trans ((f0 8 (by decide) (by decide) (by decide) (by decide) (by decide)).trans (b1 8 (by decide) (by decide) (by decide))))) ((n1 3 (by decide) (by decide) (by decide)).trans ((setW_k _ _ (by decide : 3 ≠ 7)).trans ((f0 3 (by decide) (by decide) (by decide) (by decide) (by decide)).trans b3))) (by rw [n0 1 (by decide), setW_q _ _ (by decide)]; exact f1) n35 n14 ⟨((n1 36 (by decide) (by decide) (by decide)).trans ((setW_k _ _ (by decide : 36 ≠ 7)).trans ((f0 36 (by decide) (by decide) (by decide) (by decide) (by decide)).trans b36))), ((n1 37 (by decide) (by decide) (by decide)).trans ((setW_k _ _ (by decide : 37 ≠ 7)).trans ((f0 37 (by decide) (by decide) (by decide) (by decide) (by decide)).trans b37))), ((n1 38 (by decide) (by decide) (by decide)).trans ((setW_k _ _ (by decide : 38 ≠ 7)).trans ((f0 38 (by decide) (by decide) (by decide) (by decide) (by decide)).trans b38))), ((n1 39 (by decide) (by decide) (by decide)).trans ((setW_k _ _ (by decide : 39 ≠ 7)).trans ((f0 39 (by decide) (by decide) (by decide) (by decide) (by decide)).trans b39))), ((n1 40 (by decide) (by decide) (by decide)).trans ((setW_k _ _ (by decide : 40 ≠ 7)).trans ((f0 40 (by decide) (by decide) (by decide) (by decide) (by decide)).trans b40)))⟩ n32 ⟨_, (n1 7 (by decide) (by decide) (by decide)).trans (setW_7 _ _)⟩ (fun Y hY => by cases hY) (fun e1 => absurd (show (2 : Nat) = 1 from e1) (by decide))
        · exact absurd rfl h_39
  · refine j_iconst (v := (-1)) C dX7_prove_8 (by decide) ?_
    exact j_iret C hr dX7_prove_9 (by unfold proveR proveS; rw [h_5]; exact ⟨rfl, hRM⟩)
