/-! ===== the model: equal ===== -/
theorem b2i_an (p q : Bool) : b2i p &&& b2i q = b2i (p && q) := b2i_and p q
theorem RM_pt {A : AS} {I I1 : II} {L L1 : LL} {X : Option (Nat → Fr)} (h : RM A I L) (h1 : ∀ q, q ≠ 0 → I1 q = I q) (h0 : ∀ k, k ≠ 7 → k ≠ 32 → I1 0 k = I 0 k) (h7 : ∃ w, I1 0 7 = b2i w) (h32 : I1 0 32 = b2i X.isSome) (hL : ∀ q, q ≠ 0 → ¬ (19 ≤ q ∧ q ≤ 22) → L1 q = L q) (hX : ∀ Y, X = some Y → ∀ k, 1 ≤ k → k ≤ aN A → (L1 21 k, L1 22 k) = Y k) : RM (aN A, aF A, aP A, aV A, aT A, aE A, aM A, X) I1 L1 := by
  obtain ⟨mN, mF, mP, mV, mA, mS, mT, mH, m8, m7, mX, mE⟩ := h
  have z : ∀ k, k ≠ 7 → k ≠ 32 → I1 0 k = I 0 k := h0
  refine ⟨(z 0 (by decide) (by decide)).trans mN, (z 1 (by decide) (by decide)).trans mF, (z 3 (by decide) (by decide)).trans mP, by rw [h1 1 (by decide)]; exact mV, (z 35 (by decide) (by decide)).trans mA, (z 14 (by decide) (by decide)).trans mS, fun q => ?_, h32, (z 8 (by decide) (by decide)).trans m8, h7, hX, fun q => ⟨(mE q).1.cong (h1 7 (by decide)) (h1 8 (by decide)) (h1 13 (by decide)) (fun r r1 r2 => hL r (by omega) (by omega)), fun i j hi hj => by rw [hL 5 (by decide) (by decide), hL 6 (by decide) (by decide)]; exact (mE q).2 i j hi hj⟩⟩
  obtain ⟨t1, t2, t3, t4, t5⟩ := mT q
  exact ⟨(z 36 (by decide) (by decide)).trans t1, (z 37 (by decide) (by decide)).trans t2, (z 38 (by decide) (by decide)).trans t3, (z 39 (by decide) (by decide)).trans t4, (z 40 (by decide) (by decide)).trans t5⟩
theorem eq_ans {A : AS} (h : aok A) : (if aP A = 0 then (-1 : Int32) else aT A 0) = nI 1 ↔ aT A 0 = 1 := by
  by_cases e : aP A = 0
  · rw [if_pos e, (h.2.2.2.2.2 e).1 0 (by decide)]; decide
  · rw [if_neg e]; exact Iff.rfl
theorem ep_s {L1 : LL} {V : Nat → Fr} {k : Nat} (h : ∀ j, 1 ≤ j → j < k → (L1 21 j, L1 22 j) = V j) : ∀ j, 1 ≤ j → j < k + 1 → (up2 (up2 L1 21 k (V k).1) 22 k (V k).2 21 j, up2 (up2 L1 21 k (V k).1) 22 k (V k).2 22 j) = V j := fun j j1 hj => by
  rw [up2_ne _ (show (21 : Nat) ≠ 22 by decide), up2_at, up2_at, if_pos rfl, if_pos rfl, up2_ne _ (show (22 : Nat) ≠ 21 by decide)]
  by_cases e : j = k
  · rw [if_pos e, if_pos e, e]
  · rw [if_neg e, if_neg e]; exact h j j1 (by omega)
theorem eq_l0 {P : Nat → Nat} {s n : Nat} {left : Bool} (h : left = true ↔ ∀ q, q < s → P q ≠ 0) (h0 : nI (P s) = 0) (hp : P s ≤ n) (hn : n < 5) : (left && false) = true ↔ ∀ q, q < s + 1 → P q ≠ 0 := by
  rw [Bool.and_false]
  refine ⟨(fun q => by cases q), fun q => absurd (Classical.byContradiction fun z => nI_ne0 (Nat.pos_of_ne_zero z) (by omega) h0) (q s (by omega))⟩
theorem eq_l1 {P : Nat → Nat} {s : Nat} {left : Bool} (h : left = true ↔ ∀ q, q < s → P q ≠ 0) (h0 : ¬ nI (P s) = 0) : (left && true) = true ↔ ∀ q, q < s + 1 → P q ≠ 0 := by
  rw [Bool.and_true, h]
  refine ⟨fun z q hq => ?_, fun z q hq => z q (by omega)⟩
  by_cases e : q = s
  · rw [e]; exact fun y => h0 (by rw [y]; rfl)
  · exact z q (by omega)
set_option maxHeartbeats 4000000 in
set_option maxRecDepth 20000 in
theorem c_X7_equal (l : Launch) (G : GT) (rg : RgT) (I : II) (L : LL) (A : AS) (hms : isMS rg) (hRM : RM A I L) (hok : aok A) (hpl : aT A 0 = 1 → (eL (aE A) 0 = true ↔ ∀ s, s < eS (aE A) → eP (aE A) s ≠ 0)) : CtI l yX7_equal cX7_equal 3 (some FieldType.int) 8 G rg I L [.ref (gB G + 0)] (fun r I1 L1 => r = equalR A ∧ RM (equalS A) I1 L1) := by
  refine ctI_of [some (.ref (gB G + 0)), none, none] rfl (Nat.le_of_ble_eq_true rfl) (by decide) ?_
  intro p e s m args below meth c C hr
  obtain ⟨o0, a1, a2, a3, a4, a5, a6, a7, a8, a9, a10, a11, a12, a13, a14, a15, a16, a17, a18, a19, a20, a21, a22, a23, a24, a25, a26⟩ := id hms
  obtain ⟨mN, mF, mP, mV, mA, mS, mT, mH, m8, m7, mX, mE⟩ := id hRM
  obtain ⟨k1, k4, k12, kT, kT0, kP⟩ := id hok
  refine j_aload_n C dX7_equal_0 rfl rfl ?_
  refine g_getI C (o0) fl_X7_94 (by rfl) dX7_equal_1 ?_
  refine t_i mA ?_
  refine j_iconst (v := nI 1) C dX7_equal_4 (by decide) ?_
  refine j_icmp_eq (tgt := 11) C dX7_equal_5 (by decide) (fun h_5 => ?_) (fun h_5 => ?_)
  · have h01 := (eq_ans hok).mp h_5
    obtain ⟨hRX, hFi⟩ := mE h01
    obtain ⟨hEW, hEI, kT1, kT5⟩ := kT h01
    have hpl1 := hpl h01
    obtain ⟨Ia, hIa⟩ : ∃ z, z = up2 I 0 32 (nI 0) := ⟨_, rfl⟩
    have ia1 : ∀ q, q ≠ 0 → Ia q = I q := fun q hq => by rw [hIa, up2_ne _ hq]
    have ia0 : ∀ k, k ≠ 32 → Ia 0 k = I 0 k := fun k hk => by rw [hIa, up2_at, if_pos rfl, if_neg hk]
    have ia32 : Ia 0 32 = b2i false := by rw [hIa, up2_at]; simp <;> rfl
    have hRXa : RelX (aN A) Ia L (aE A) := hRX.cong (ia1 7 (by decide)) (ia1 8 (by decide)) (ia1 13 (by decide)) (fun _ _ _ => rfl)
    refine j_aload_n C dX7_equal_11 rfl rfl ?_
    refine j_iconst (v := nI 0) C dX7_equal_12 (by decide) ?_
    refine g_putI C (o0) fw_X7_112 (by rfl) rfl (rfl) dX7_equal_13 ?_
    rw [← hIa]
    refine j_iconst (v := b2i true) C dX7_equal_16 (by decide) ?_
    refine j_istore_n C dX7_equal_17 rfl (by decide) ?_
    refine j_iconst (v := nI 0) C dX7_equal_18 (by decide) ?_
    refine j_istore_n C dX7_equal_19 rfl (by decide) ?_
    have lp : ∀ (fuel : Nat) (s0 : Nat) (left : Bool), eS (aE A) < fuel + s0 → s0 ≤ eS (aE A) → (left = true ↔ ∀ q, q < s0 → eP (aE A) q ≠ 0) → J p l e (rmD 8) s m args below meth c (MQ below (QI G rg (fun r I1 L1 => r = equalR A ∧ RM (equalS A) I1 L1)) args s 0 0 (rg_A G rg)) 3 G rg 0 0 Ia L 20 [some (.ref (gB G + 0)), some (.int (b2i left)), some (.int (nI s0))] [] := by
      intro fuel
      induction fuel with
      | zero => intro s0 left h1 h2 hlf; exfalso; omega
      | succ fuel ih_lp =>
        intro s0 left h1 h2 hlf
        refine j_iload_n C dX7_equal_20 rfl rfl ?_
        refine j_aload_n C dX7_equal_21 rfl rfl ?_
        refine g_getI C (o0) fl_X7_109 (by rfl) dX7_equal_22 ?_
        refine t_i (y := nI (eS (aE A))) ((ia0 14 (by decide)).trans (mS.trans kT1)) ?_
        first | refine n_icmp_ge (tgt := 51) C (by omega) (by omega) dX7_equal_25 (by decide) (fun h_25 => ?_) (fun h_25 => ?_) | refine j_icmp_ge (tgt := 51) C dX7_equal_25 (by decide) (fun h_25 => ?_) (fun h_25 => ?_)
        · refine j_iload_n C dX7_equal_51 rfl rfl ?_
          first | refine n_if_ne (tgt := 57) C dX7_equal_52 (by decide) (fun h_52 => ?_) (fun h_52 => ?_) | refine j_if_ne (tgt := 57) C dX7_equal_52 (by decide) (fun h_52 => ?_) (fun h_52 => ?_)
          · have hl0 : eL (aE A) 0 = true := hpl1.mpr (fun z hz => hlf.mp h_52 z (by omega))
            refine j_aload_n C dX7_equal_57 rfl rfl ?_
            refine g_cvV C vc_X7_195 (c_X7_begin l G rg _ _ hms) ⟨Nat.le_of_ble_eq_true rfl, Nat.le_of_ble_eq_true rfl⟩ (o0) rfl rfl (Nat.le_of_ble_eq_true rfl) ⟨Nat.zero_le _, Nat.zero_le _⟩ dX7_equal_58 (fun I_58 L_58 p_58 => ?_)
            obtain ⟨rfl, rfl⟩ := p_58
            refine t_IL (I1 := setW Ia false) (up2_same _ ((setW_k _ _ (by decide)).trans ((ia0 8 (by decide)).trans m8))) rfl ?_
            refine j_aload_n C dX7_equal_61 rfl rfl ?_
            refine g_cvV C vc_X7_227 (c_X7_noWitness l G rg _ _ hms) ⟨Nat.le_of_ble_eq_true rfl, Nat.le_of_ble_eq_true rfl⟩ (o0) rfl rfl (Nat.le_of_ble_eq_true rfl) ⟨Nat.zero_le _, Nat.zero_le _⟩ dX7_equal_62 (fun I_62 L_62 p_62 => ?_)
            obtain ⟨rfl, hW1, hW2⟩ := p_62
            refine j_aload_n C dX7_equal_65 rfl rfl ?_
            refine g_getR C (o0) fl_X7_70 (by rfl) dX7_equal_66 ?_
            refine j_iconst (v := nI 0) C dX7_equal_69 (by decide) ?_
            refine j_lconst (v := 1) C dX7_equal_70 (by decide) ?_
            refine g_last C (a19) (by decide) (by decide) dX7_equal_71 ?_
            refine j_aload_n C dX7_equal_72 rfl rfl ?_
            refine g_cvV C vc_X7_230 (c_X7_goBack l G rg _ _ (aN A) (aE A) (va_up z0 0 (1, 1)) hms ((setW_k _ _ (by decide)).trans ((ia0 0 (by decide)).trans mN)) (by omega) (setW_7 _ _) ((setW_k _ _ (by decide)).trans ((ia0 8 (by decide)).trans m8)) ((setW_k _ _ (by decide)).trans ((ia0 14 (by decide)).trans (mS.trans kT1))) kT5 (hRXa.cong (setW_q _ _ (by decide)) (setW_q _ _ (by decide)) (setW_q _ _ (by decide)) (fun q q1 q2 => by rw [up2_ne _ (by omega)]; exact hW1 q (by omega) (by omega))) hEW (wt_1 hW2 (fun _ => rfl)) (fun j hj => by by_cases e : j = 0; (rw [e, va_up_self]; exact WF_11); (rw [va_up_ne _ _ e]; exact WF_01))) ⟨Nat.le_of_ble_eq_true rfl, Nat.le_of_ble_eq_true rfl⟩ (o0) rfl rfl (Nat.le_of_ble_eq_true rfl) ⟨Nat.zero_le _, Nat.zero_le _⟩ dX7_equal_73 (fun I_73 L_73 p_73 => ?_)
            obtain ⟨w1, V, e1, hG1, hG2, hG3⟩ := p_73
            rw [setW_2] at e1
            subst e1
            have hLq : ∀ q, q ≠ 0 → ¬ (19 ≤ q ∧ q ≤ 22) → L_73 q = L q := fun q a b => by rw [hG1 q a (by omega) (by omega), up2_ne _ (by omega)]; exact hW1 q (by omega) (by omega)
            refine j_aload_n C dX7_equal_76 rfl rfl ?_
            refine g_cvI C vc_X7_154 (c_X7_isWrong l G rg _ _ w1 hms (setW_7 _ _) ((setW_k _ _ (by decide)).trans ((ia0 8 (by decide)).trans m8))) ⟨Nat.le_of_ble_eq_true rfl, Nat.le_of_ble_eq_true rfl⟩ (o0) rfl rfl (Nat.le_of_ble_eq_true rfl) ⟨Nat.zero_le _, Nat.zero_le _⟩ dX7_equal_77 (fun r_77 I_77 L_77 p_77 => ?_)
            obtain ⟨rfl, rfl, rfl⟩ := p_77
            first | refine n_if_eq (tgt := 85) C dX7_equal_80 (by decide) (fun h_80 => ?_) (fun h_80 => ?_) | refine j_if_eq (tgt := 85) C dX7_equal_80 (by decide) (fun h_80 => ?_) (fun h_80 => ?_)
            · subst h_80
              obtain ⟨hv1, hv2, hv3⟩ := hG3 rfl
              refine j_iconst (v := nI 1) C dX7_equal_85 (by decide) ?_
              refine j_istore_n C dX7_equal_86 rfl (by decide) ?_
              have lk : ∀ (fuel : Nat) (k : Nat) (L1 : LL), aN A + 1 < fuel + k → 1 ≤ k → k ≤ aN A + 1 → (∀ q, q ≠ 21 → q ≠ 22 → L1 q = L_73 q) → (∀ j, 1 ≤ j → j < k → (L1 21 j, L1 22 j) = V j) → J p l e (rmD 8) s m args below meth c (MQ below (QI G rg (fun r I1 L1 => r = equalR A ∧ RM (equalS A) I1 L1)) args s 0 0 (rg_A G rg)) 3 G rg 0 0 (setW Ia false) L1 87 [some (.ref (gB G + 0)), some (.int (b2i left)), some (.int (nI k))] [] := by
                intro fuel
                induction fuel with
                | zero => intro k L1 q1 q2 q3 hK hP; exfalso; omega
                | succ fuel ih_lk =>
                  intro k L1 q1 q2 q3 hK hP
                  refine j_iload_n C dX7_equal_87 rfl rfl ?_
                  refine j_aload_n C dX7_equal_88 rfl rfl ?_
                  refine g_getI C (o0) fl_X7_7 (by rfl) dX7_equal_89 ?_
                  refine t_i (y := nI (aN A)) ((setW_k _ _ (by decide)).trans ((ia0 0 (by decide)).trans mN)) ?_
                  first | refine n_icmp_gt (tgt := 125) C (by omega) (by omega) dX7_equal_92 (by decide) (fun h_92 => ?_) (fun h_92 => ?_) | refine j_icmp_gt (tgt := 125) C dX7_equal_92 (by decide) (fun h_92 => ?_) (fun h_92 => ?_)
                  · refine j_aload_n C dX7_equal_125 rfl rfl ?_
                    refine j_iconst (v := nI 1) C dX7_equal_126 (by decide) ?_
                    refine g_putI C (o0) fw_X7_112 (by rfl) rfl (rfl) dX7_equal_127 ?_
                    refine j_iconst (v := nI 1) C dX7_equal_130 (by decide) ?_
                    have he : eqW A = some V := hv3.symm
                    refine j_iret C hr dX7_equal_131 ?_
                    unfold equalR equalS
                    rw [if_pos h01, if_pos h01, if_pos hl0, if_pos hl0, he]
                    exact ⟨rfl, RM_pt hRM (fun q hq => by rw [up2_ne _ hq, setW_q _ _ hq]; exact ia1 q hq) (fun k h7 hk => by rw [up2_at, if_pos rfl, if_neg hk, setW_k _ _ h7]; exact ia0 k hk) ⟨false, by rw [up2_at]; simp; exact setW_7 _ _⟩ (by rw [up2_at]; simp <;> rfl) (fun q a b => by rw [hK q (by omega) (by omega)]; exact hLq q a b) (fun Y hY j j1 j2 => by cases hY; exact hP j j1 (by omega))⟩
                  · refine j_aload_n C dX7_equal_95 rfl rfl ?_
                    refine g_getR C (o0) fl_X7_76 (by rfl) dX7_equal_96 ?_
                    refine j_iload_n C dX7_equal_99 rfl rfl ?_
                    refine j_aload_n C dX7_equal_100 rfl rfl ?_
                    refine g_getR C (o0) fl_X7_70 (by rfl) dX7_equal_101 ?_
                    refine j_iload_n C dX7_equal_104 rfl rfl ?_
                    refine g_lald C (a19) (by omega) (by decide) dX7_equal_105 ?_
                    refine t_l (y := (V k).1) (by rw [hK 19 (by decide) (by decide)]; exact congrArg Prod.fst (hv1 k (by omega))) ?_
                    refine g_last C (a21) (by omega) (by decide) dX7_equal_106 ?_
                    refine j_aload_n C dX7_equal_107 rfl rfl ?_
                    refine g_getR C (o0) fl_X7_79 (by rfl) dX7_equal_108 ?_
                    refine j_iload_n C dX7_equal_111 rfl rfl ?_
                    refine j_aload_n C dX7_equal_112 rfl rfl ?_
                    refine g_getR C (o0) fl_X7_73 (by rfl) dX7_equal_113 ?_
                    refine j_iload_n C dX7_equal_116 rfl rfl ?_
                    refine g_lald C (a20) (by omega) (by decide) dX7_equal_117 ?_
                    refine t_l (y := (V k).2) (by rw [up2_ne _ (by decide), hK 20 (by decide) (by decide)]; exact congrArg Prod.snd (hv1 k (by omega))) ?_
                    refine g_last C (a22) (by omega) (by decide) dX7_equal_118 ?_
                    first | refine n_iinc (n := 1) C dX7_equal_119 rfl (by decide) ?_ | refine j_iinc C dX7_equal_119 rfl rfl (by decide) ?_
                    refine j_goto (tgt := 87) C dX7_equal_122 (by decide) ?_
                    exact ih_lk (k + 1) _ (by omega) (by omega) (by omega) (fun q a b => by rw [up2_ne _ b, up2_ne _ a]; exact hK q a b) (ep_s hP)
              exact lk (aN A + 2) 1 L_73 (by omega) (by omega) (by omega) (fun _ _ _ => rfl) (fun j a b => by omega)
            · refine j_iconst (v := nI 2) C dX7_equal_83 (by decide) ?_
              have he : eqW A = none := hG2 h_80
              refine j_iret C hr dX7_equal_84 ?_
              unfold equalR equalS
              rw [if_pos h01, if_pos h01, if_pos hl0, if_pos hl0, he]
              exact ⟨rfl, RM_pt hRM (fun q hq => by rw [setW_q _ _ hq]; exact ia1 q hq) (fun k h7 hk => (setW_k _ _ h7).trans (ia0 k hk)) ⟨w1, setW_7 _ _⟩ ((setW_k _ _ (by decide)).trans ia32) hLq (fun Y hY => by cases hY)⟩
          · refine j_iconst (v := nI 0) C dX7_equal_55 (by decide) ?_
            have hl0 : ¬ eL (aE A) 0 = true := fun q => by rw [hlf.mpr (fun z hz => hpl1.mp q z (by omega))] at h_52; cases h_52
            refine j_iret C hr dX7_equal_56 ?_
            unfold equalR equalS
            rw [if_pos h01, if_pos h01, if_neg hl0, if_neg hl0]
            exact ⟨rfl, RM_pt hRM ia1 (fun k _ hk => ia0 k hk) (by obtain ⟨w, hw⟩ := m7; exact ⟨w, (ia0 7 (by decide)).trans hw⟩) ia32 (fun _ _ _ => rfl) (fun Y hY => by cases hY)⟩
        · refine j_iload_n C dX7_equal_28 rfl rfl ?_
          refine j_aload_n C dX7_equal_29 rfl rfl ?_
          refine g_getR C (o0) fl_X7_37 (by rfl) dX7_equal_30 ?_
          refine j_iload_n C dX7_equal_33 rfl rfl ?_
          refine g_iald C (a8) (by omega) (by decide) dX7_equal_34 ?_
          refine t_i (hRXa.2 s0 h_25).1 ?_
          refine j_if_eq (tgt := 42) C dX7_equal_35 (by decide) (fun h_35 => ?_) (fun h_35 => ?_)
          · refine j_iconst (v := b2i false) C dX7_equal_42 (by decide) ?_
            refine j_iand C dX7_equal_43 ?_
            refine t_i (b2i_an _ _) ?_
            refine j_istore_n C dX7_equal_44 rfl (by decide) ?_
            first | refine n_iinc (n := 1) C dX7_equal_45 rfl (by decide) ?_ | refine j_iinc C dX7_equal_45 rfl rfl (by decide) ?_
            refine j_goto (tgt := 20) C dX7_equal_48 (by decide) ?_
            refine ih_lp (s0 + 1) _ (by omega) (by omega) ?_
            first
            | exact eq_l0 hlf h_35 (hEW.2 s0 h_25).1 (by omega)
            | exact eq_l1 hlf h_35
          · refine j_iconst (v := b2i true) C dX7_equal_38 (by decide) ?_
            refine j_goto (tgt := 43) C dX7_equal_39 (by decide) ?_
            refine j_iand C dX7_equal_43 ?_
            refine t_i (b2i_an _ _) ?_
            refine j_istore_n C dX7_equal_44 rfl (by decide) ?_
            first | refine n_iinc (n := 1) C dX7_equal_45 rfl (by decide) ?_ | refine j_iinc C dX7_equal_45 rfl rfl (by decide) ?_
            refine j_goto (tgt := 20) C dX7_equal_48 (by decide) ?_
            refine ih_lp (s0 + 1) _ (by omega) (by omega) ?_
            first
            | exact eq_l0 hlf h_35 (hEW.2 s0 h_25).1 (by omega)
            | exact eq_l1 hlf h_35
    exact lp (eS (aE A) + 1) 0 true (by omega) (by omega) ⟨fun _ q hq => by omega, fun _ => rfl⟩
  · refine j_bipush (v := (-2)) C dX7_equal_8 (by decide) ?_
    exact j_iret C hr dX7_equal_10 (by have hq : ¬ aT A 0 = 1 := fun q => h_5 ((eq_ans hok).mpr q); unfold equalR equalS; rw [if_neg hq, if_neg hq]; exact ⟨rfl, hRM⟩)
