/-! ===== prove, as the class does it ===== -/
theorem RC_told {A : AS} {c : Nat} {E : ES} {X : Option (Nat → Fr)} {M : Nat → Nat → Fr} {f g u d t : Int32} {I I1 : II} {L L1 : LL} (hRC : RC A I L) (h0 : ∀ k, k ≠ 12 → I1 0 k = I 0 k) (h12 : I1 0 12 = nI (aP A + 1)) (hf : ∀ q, q < 12 → I1 (203 + 2 * q) = I (203 + 2 * q)) (ht : ∀ k, k < 7 → I1 2 k = tl7 (nI c) (if c = 1 then nI (eS E) else 0) f g u d t k) (hx : I1 190 3 = b2i X.isSome) (h192 : fr L1 192 = (1, 1)) (hX : ∀ Y, X = some Y → PR 190 (aN A) L1 Y) (hE : nI c = 1 → RelC (aN A) 32 I1 L1 E ∧ ∀ i j, i ≤ aN A → j ≤ aN A → fr L1 (6 + (i * 5 + j)) = M i j) : RC (toldS A c E X M f g u d t) I1 L1 :=
  ⟨(h0 10 (by decide)).trans hRC.1, (h0 11 (by decide)).trans hRC.2.1, h12, fun q k hq hk => by rw [hf q hq]; exact hRC.2.2.2.1 q k hq hk, ht, hx, h192, hX, fun q => hE q⟩
theorem tl_fin {c s : Nat} {f g : Int32} {T : Nat → Int32} (h0 : T 0 = nI c) (h1 : T 1 = if c = 1 then nI s else 0) (h2 : ∀ k, 2 ≤ k → k < 7 → T k = stT f g k) : ∀ k, k < 7 → T k = tl7 (nI c) (if c = 1 then nI s else 0) f g 0 1 0 k := by
  intro k hk
  rcases (show k = 0 ∨ k = 1 ∨ 2 ≤ k by omega) with rfl | rfl | q
  · exact h0
  · exact h1
  · rw [h2 k q hk]
    unfold stT tl7
    rcases (show k = 2 ∨ k = 3 ∨ k = 4 ∨ k = 5 ∨ k = 6 by omega) with rfl | rfl | rfl | rfl | rfl <;> rfl
theorem prvQ_n {n : Nat} {f : Nat → Int32} {c k : Nat} {jo : Option Nat} {E : ES} (h : c ≠ 0) : prvQ n f (c, k, jo, E) = (c, E, none) := if_neg h
theorem prvQ_s {n : Nat} {f : Nat → Int32} {k : Nat} {jo : Option Nat} {E : ES} {X : Nat → Fr} (h : pfO n f k jo E = some X) : prvQ n f (0, k, jo, E) = (0, E, some X) := by
  unfold prvQ; rw [if_pos rfl]; simp only [h]
theorem prvQ_z {n : Nat} {f : Nat → Int32} {k : Nat} {jo : Option Nat} {E : ES} (h : pfO n f k jo E = none) : prvQ n f (0, k, jo, E) = (2, E, none) := by
  unfold prvQ; rw [if_pos rfl]; simp only [h]
theorem nI_1eq {c : Nat} (h : nI c = 1) (hc : c < 2 ^ 31) : c = 1 := (nI_eq hc (by decide)).mp h

set_option maxHeartbeats 4000000 in
set_option maxRecDepth 20000 in
theorem c_X6_prove (l : Launch) (G : GT) (rg : RgT) (I : II) (L : LL) (A : AS) (x : Int32) (hss : isSS rg) (hRC : RC A I L) (hok : aok A) : CtI l yX6_prove cX6_prove 4 (some FieldType.int) 8 G rg I L [.ref (gB G + 0), .int x] (fun r I1 L1 => r = proveR A x ∧ RC (proveS A x) I1 L1) := by
  refine ctI_of [some (.ref (gB G + 0)), some (.int x), none, none] rfl (Nat.le_of_ble_eq_true rfl) (by decide) ?_
  intro p e s m args below meth c C hr
  obtain ⟨so1, so2, so3, so4, so5, so6, so7, so8, so9, so10, so11, so12⟩ := id hss
  obtain ⟨rN, rF, rP, rV, rT, rX, rx0, rXv, rE⟩ := id hRC
  obtain ⟨kN, kN4, kF, kT, kT0, kP⟩ := id hok
  obtain ⟨eo1, eo2, eo3, eo4, eo5, eo6, eo7, eo8, eo9⟩ := id so6
  refine j_aload_n C dX6_prove_0 rfl rfl ?_
  refine j_iload_n C dX6_prove_1 rfl rfl ?_
  refine g_cvI C vc_X6_84 (c_X6_isForm l G rg _ _ A _ hss hRC hok) ⟨Nat.le_of_ble_eq_true rfl, Nat.le_of_ble_eq_true rfl⟩ (by assumption) rfl rfl (Nat.le_of_ble_eq_true rfl) ⟨Nat.zero_le _, Nat.zero_le _⟩ dX6_prove_2 (fun r_2 I_2 L_2 p_2 => ?_)
  obtain ⟨rfl, rfl, rfl⟩ := p_2
  first | refine n_if_ne (tgt := 10) C dX6_prove_5 (by decide) (fun h_5 => ?_) (fun h_5 => ?_) | refine j_if_ne (tgt := 10) C dX6_prove_5 (by decide) (fun h_5 => ?_) (fun h_5 => ?_)
  · obtain ⟨hx, hxn⟩ := okF_t h_5
    have hfm := so12 x.toNatClampNeg (by omega)
    obtain ⟨f, hfe⟩ : ∃ f, f = x.toNatClampNeg := ⟨_, rfl⟩
    rw [← hfe] at hx hxn hfm
    refine j_aload_n C dX6_prove_10 rfl rfl ?_
    refine j_iload_n C dX6_prove_11 rfl rfl ?_
    refine j_iconst (v := (-1)) C dX6_prove_12 (by decide) ?_
    refine g_cvV C vc_X6_112 (c_X6_startTelling l G rg _ _ x (-1) (aP A) hss rP) ⟨Nat.le_of_ble_eq_true rfl, Nat.le_of_ble_eq_true rfl⟩ (so1) rfl rfl (Nat.le_of_ble_eq_true rfl) ⟨Nat.zero_le _, Nat.zero_le _⟩ dX6_prove_13 (fun I_13 L_13 p_13 => ?_)
    obtain ⟨rfl, i1, i2, i3, i4⟩ := p_13
    have rN1 := (i2 10 (by decide)).trans rN
    have rV1 : ∀ q, q < 25 → I_13 (203 + 2 * f) q = aV A f q := fun q hq => by rw [i1 _ (by omega) (by omega)]; exact rV f q (by omega) hq
    refine j_aload_n C dX6_prove_16 rfl rfl ?_
    refine g_getR C (by assumption) fl_X6_26 (by rfl) dX6_prove_17 ?_
    refine j_aload_n C dX6_prove_20 rfl rfl ?_
    refine g_getR C (by assumption) fl_X6_11 (by rfl) dX6_prove_21 ?_
    refine j_iload_n C dX6_prove_24 rfl rfl ?_
    refine t_i hx ?_
    refine g_aald5 C (so2) (by omega) (by decide) (by rfl) (by omega) dX6_prove_25 ?_
    refine j_aload_n C dX6_prove_26 rfl rfl ?_
    refine g_getI C (by assumption) fl_X6_60 (by rfl) dX6_prove_27 ?_
    refine t_i rN1 ?_
    refine g_cvV C vc_X6_116 (c_X3_take l G rg _ _ 4 (202 + 2 * f) (aN A) so5 hfm (by omega)) ⟨Nat.le_of_ble_eq_true rfl, Nat.le_of_ble_eq_true rfl⟩ (so5.1) rfl rfl (Nat.le_of_ble_eq_true rfl) ⟨Nat.zero_le _, Nat.zero_le _⟩ dX6_prove_30 (fun I_30 L_30 p_30 => ?_)
    obtain ⟨rfl, g1, g2⟩ := p_30
    have hMx : ∀ i j, i ≤ aN A → j ≤ aN A → fr L_30 (4 + 2 + (i * 5 + j)) = mxF A f i j := fun i j hi hj => by rw [g2 i j hi hj (by omega)]; show hv _ i j = hv _ i j; rw [show 202 + 2 * f + 1 = 203 + 2 * f by omega, rV1 _ (ix_lt (by omega) (by omega))]
    refine j_aload_n C dX6_prove_33 rfl rfl ?_
    refine g_getR C (by assumption) fl_X6_33 (by rfl) dX6_prove_34 ?_
    refine j_aload_n C dX6_prove_37 rfl rfl ?_
    refine g_getR C (by assumption) fl_X6_26 (by rfl) dX6_prove_38 ?_
    refine j_aload_n C dX6_prove_41 rfl rfl ?_
    refine g_getI C (by assumption) fl_X6_60 (by rfl) dX6_prove_42 ?_
    refine t_i rN1 ?_
    refine g_cvI C vc_X6_120 (c_X0_run l G rg _ _ 32 4 (aN A) (mxF A f) so6 so5 (by omega) (by omega) hMx) ⟨Nat.le_of_ble_eq_true rfl, Nat.le_of_ble_eq_true rfl⟩ (so6.1) rfl rfl (Nat.le_of_ble_eq_true rfl) ⟨Nat.zero_le _, Nat.zero_le _⟩ dX6_prove_45 (fun r_45 I_45 L_45 p_45 => ?_)
    obtain ⟨f1, f2, cq, k0, jo, E, hel, rfl, hRel, h89⟩ := p_45
    obtain ⟨hEW, hEI, hk0, hc2⟩ := elim_EW (EW_0 (fun i j hi hj => hv_WF _ i j)) (EI_0 (aN A) (mxF A f)) hel
    have rN2 : I_45 0 10 = nI (aN A) := by rw [f1.at (by omega)]; exact rN1
    have hL192 : fr L_45 192 = (1, 1) := (f2.fr (by omega)).trans ((g1.fr (by omega)).trans rx0)
    have hM2 : ∀ i j, i ≤ aN A → j ≤ aN A → fr L_45 (6 + (i * 5 + j)) = mxF A f i j := fun i j hi hj => (f2.fr (by omega)).trans (hMx i j hi hj)
    have hps : proveS A x = toldS A (prvQ (aN A) (aV A f) (cq, k0, jo, E)).1 (prvQ (aN A) (aV A f) (cq, k0, jo, E)).2.1 (prvQ (aN A) (aV A f) (cq, k0, jo, E)).2.2 (mxF A f) x (-1) 0 1 0 := by unfold proveS prvO; rw [if_pos h_5, ← hfe, hel]
    have hpr : proveR A x = nI (prvQ (aN A) (aV A f) (cq, k0, jo, E)).1 := by unfold proveR prvO; rw [if_pos h_5, ← hfe, hel]
    refine j_istore_n C dX6_prove_48 rfl (by decide) ?_
    refine j_iload_n C dX6_prove_49 rfl rfl ?_
    refine j_if_ne (tgt := 106) C dX6_prove_50 (by decide) (fun h_50 => ?_) (fun h_50 => ?_)
    · refine j_aload_n C dX6_prove_106 rfl rfl ?_
      refine j_iload_n C dX6_prove_107 rfl rfl ?_
      refine g_cvI C vc_X6_136 (c_X6_endTelling l G rg _ _ cq hss (by omega)) ⟨Nat.le_of_ble_eq_true rfl, Nat.le_of_ble_eq_true rfl⟩ (so1) rfl rfl (Nat.le_of_ble_eq_true rfl) ⟨Nat.zero_le _, Nat.zero_le _⟩ dX6_prove_108 (fun r_108 I_108 L_108 p_108 => ?_)
      obtain ⟨rfl, rfl, e1, e2, e3, e4, e5⟩ := p_108
      have hne : cq ≠ 0 := fun z => h_50 (by rw [z]; rfl)
      rw [prvQ_n hne] at hps hpr
      refine j_iret C hr dX6_prove_111 ⟨hpr.symm, ?_⟩
      rw [hps]
      have e5 : I_108 190 3 = b2i false := by rw [e5, decide_eq_false hne]
      exact RC_told hRC (fun k hk => by rw [e1 0 (by omega) (by omega), f1.at (by omega)]; exact i2 k hk) (by rw [e1 0 (by omega) (by omega), f1.at (by omega)]; exact i3) (fun q hq => by rw [e1 _ (by omega) (by omega), f1.at (by omega), i1 _ (by omega) (by omega)]) (tl_fin e3 (by rw [e4]; by_cases z : cq = 1; (rw [if_pos z, if_pos z]; exact (hRel (by omega)).2.1); rw [if_neg z, if_neg z]) (fun k k1 k2 => by rw [e2 k k1, f1.at (by omega)]; exact i4 k k2)) e5 hL192 (fun Y hY => by cases hY) (fun z => by have z1 := nI_1eq z (by omega); exact ⟨(hRel (by omega)).cong (by omega) (by rw [e1 _ (by omega) (by omega)]) (by rw [e1 _ (by omega) (by omega)]) (fun _ _ => rfl) (e1 _ (by omega) (by omega)) (fun s _ => by rw [e1 _ (by omega) (by omega)]) (fun _ _ _ => rfl), hM2⟩)
    · have hcq : cq = 0 := Classical.byContradiction (fun z => nI_ne0 (Nat.pos_of_ne_zero z) (by omega) h_50)
      subst hcq
      obtain ⟨h8, h9⟩ := h89 rfl
      refine j_aload_n C dX6_prove_53 rfl rfl ?_
      refine g_getR C (by assumption) fl_X6_33 (by rfl) dX6_prove_54 ?_
      refine g_cvI C vc_X6_124 (c_X0_findNegative l G rg _ _ 32 (aN A) k0 jo E so6 (by omega) (hRel (by decide)) hEW h8 h9 (hk0 rfl).1 (hk0 rfl).2) ⟨Nat.le_of_ble_eq_true rfl, Nat.le_of_ble_eq_true rfl⟩ (eo1) rfl rfl (Nat.le_of_ble_eq_true rfl) ⟨Nat.zero_le _, Nat.zero_le _⟩ dX6_prove_57 (fun r_57 I_57 L_57 p_57 => ?_)
      obtain ⟨rfl, hG57, ⟨rfl, V, hV, hVR⟩ | ⟨rfl, hV⟩⟩ := p_57
      · refine j_if_eq (tgt := 94) C dX6_prove_60 (by decide) (fun h_60 => ?_) (fun h_60 => ?_)
        · exact absurd h_60 (by decide)
        · refine j_aload_n C dX6_prove_63 rfl rfl ?_
          refine g_getR C (by assumption) fl_X6_43 (by rfl) dX6_prove_64 ?_
          refine j_aload_n C dX6_prove_67 rfl rfl ?_
          refine g_getR C (by assumption) fl_X6_33 (by rfl) dX6_prove_68 ?_
          refine g_getR C (eo1) fl_X6_128 (by rfl) dX6_prove_71 ?_
          refine j_aload_n C dX6_prove_74 rfl rfl ?_
          refine g_getR C (by assumption) fl_X6_11 (by rfl) dX6_prove_75 ?_
          refine j_iload_n C dX6_prove_78 rfl rfl ?_
          refine t_i hx ?_
          refine g_aald5 C (so2) (by omega) (by decide) (by rfl) (by omega) dX6_prove_79 ?_
          refine j_aload_n C dX6_prove_80 rfl rfl ?_
          refine g_getI C (by assumption) fl_X6_60 (by rfl) dX6_prove_81 ?_
          refine t_i rN2 ?_
          refine g_cvI C vc_X6_132 (c_X4_byWitness l G rg _ _ 190 (32 + 31) (32 + 32) (202 + 2 * f) (aN A) V (aV A f) so8 eo5 eo6 (by omega) (by omega) (by omega) hfm (fun q hq => by rw [show 202 + 2 * f + 1 = 203 + 2 * f by omega, f1.at (by omega)]; exact rV1 q hq) (fun j hj => (hVR j hj).1) ((hG57.fr (by omega)).trans hL192)) ⟨Nat.le_of_ble_eq_true rfl, Nat.le_of_ble_eq_true rfl⟩ (so8.1) rfl rfl (Nat.le_of_ble_eq_true rfl) ⟨Nat.zero_le _, Nat.zero_le _⟩ dX6_prove_84 (fun r_84 I_84 L_84 p_84 => ?_)
          obtain ⟨rfl, hG84, ⟨rfl, X, hX, hPX⟩ | ⟨rfl, hX⟩⟩ := p_84
          · replace hX : pfO (aN A) (aV A f) k0 jo E = some X := by unfold pfO; rw [hV]; exact hX
            have hxz := (hG84.fr (q := 192) (by omega)).trans ((hG57.fr (q := 192) (by omega)).trans hL192)
            refine j_if_eq (tgt := 94) C dX6_prove_87 (by decide) (fun h_87 => ?_) (fun h_87 => ?_)
            · exact absurd h_87 (by decide)
            · refine j_iconst (v := nI 1) C dX6_prove_90 (by decide) ?_
              refine j_goto (tgt := 95) C dX6_prove_91 (by decide) ?_
              refine j_istore_n C dX6_prove_95 rfl (by decide) ?_
              refine j_iload_n C dX6_prove_96 rfl rfl ?_
              refine j_if_eq (tgt := 104) C dX6_prove_97 (by decide) (fun h_97 => ?_) (fun h_97 => ?_)
              · exact absurd h_97 (by decide)
              · refine j_iconst (v := nI 0) C dX6_prove_100 (by decide) ?_
                refine j_goto (tgt := 105) C dX6_prove_101 (by decide) ?_
                refine j_istore_n C dX6_prove_105 rfl (by decide) ?_
                refine j_aload_n C dX6_prove_106 rfl rfl ?_
                refine j_iload_n C dX6_prove_107 rfl rfl ?_
                refine g_cvI C vc_X6_136 (c_X6_endTelling l G rg _ _ 0 hss (by omega)) ⟨Nat.le_of_ble_eq_true rfl, Nat.le_of_ble_eq_true rfl⟩ (so1) rfl rfl (Nat.le_of_ble_eq_true rfl) ⟨Nat.zero_le _, Nat.zero_le _⟩ dX6_prove_108 (fun r_108 I_108 L_108 p_108 => ?_)
                obtain ⟨rfl, rfl, e1, e2, e3, e4, e5⟩ := p_108
                rw [prvQ_s hX] at hps hpr
                refine j_iret C hr dX6_prove_111 ⟨hpr.symm, ?_⟩
                rw [hps]
                exact RC_told hRC (fun k hk => by rw [e1 0 (by omega) (by omega), f1.at (by omega)]; exact i2 k hk) (by rw [e1 0 (by omega) (by omega), f1.at (by omega)]; exact i3) (fun q hq => by rw [e1 _ (by omega) (by omega), f1.at (by omega), i1 _ (by omega) (by omega)]) (tl_fin e3 (by rw [e4]; rfl) (fun k k1 k2 => by rw [e2 k k1, f1.at (by omega)]; exact i4 k k2)) e5 hxz (fun Y hY => by cases hY; exact hPX) (fun z => absurd (show nI 0 = 1 from z) (by decide))
          · replace hX : pfO (aN A) (aV A f) k0 jo E = none := by unfold pfO; rw [hV]; exact hX
            have hxz := (hG84.fr (q := 192) (by omega)).trans ((hG57.fr (q := 192) (by omega)).trans hL192)
            refine j_if_eq (tgt := 94) C dX6_prove_87 (by decide) (fun h_87 => ?_) (fun h_87 => ?_)
            · refine j_iconst (v := nI 0) C dX6_prove_94 (by decide) ?_
              refine j_istore_n C dX6_prove_95 rfl (by decide) ?_
              refine j_iload_n C dX6_prove_96 rfl rfl ?_
              refine j_if_eq (tgt := 104) C dX6_prove_97 (by decide) (fun h_97 => ?_) (fun h_97 => ?_)
              · refine j_iconst (v := nI 2) C dX6_prove_104 (by decide) ?_
                refine j_istore_n C dX6_prove_105 rfl (by decide) ?_
                refine j_aload_n C dX6_prove_106 rfl rfl ?_
                refine j_iload_n C dX6_prove_107 rfl rfl ?_
                refine g_cvI C vc_X6_136 (c_X6_endTelling l G rg _ _ 2 hss (by omega)) ⟨Nat.le_of_ble_eq_true rfl, Nat.le_of_ble_eq_true rfl⟩ (so1) rfl rfl (Nat.le_of_ble_eq_true rfl) ⟨Nat.zero_le _, Nat.zero_le _⟩ dX6_prove_108 (fun r_108 I_108 L_108 p_108 => ?_)
                obtain ⟨rfl, rfl, e1, e2, e3, e4, e5⟩ := p_108
                rw [prvQ_z hX] at hps hpr
                refine j_iret C hr dX6_prove_111 ⟨hpr.symm, ?_⟩
                rw [hps]
                exact RC_told hRC (fun k hk => by rw [e1 0 (by omega) (by omega), f1.at (by omega)]; exact i2 k hk) (by rw [e1 0 (by omega) (by omega), f1.at (by omega)]; exact i3) (fun q hq => by rw [e1 _ (by omega) (by omega), f1.at (by omega), i1 _ (by omega) (by omega)]) (tl_fin e3 (by rw [e4]; rfl) (fun k k1 k2 => by rw [e2 k k1, f1.at (by omega)]; exact i4 k k2)) e5 hxz (fun Y hY => by cases hY) (fun z => absurd (show nI 2 = 1 from z) (by decide))
              · exact absurd rfl h_97
            · exact absurd rfl h_87
      · have hX : pfO (aN A) (aV A f) k0 jo E = none := by unfold pfO; rw [hV]; rfl
        have hxz := (hG57.fr (q := 192) (by omega)).trans hL192
        refine j_if_eq (tgt := 94) C dX6_prove_60 (by decide) (fun h_60 => ?_) (fun h_60 => ?_)
        · refine j_iconst (v := nI 0) C dX6_prove_94 (by decide) ?_
          refine j_istore_n C dX6_prove_95 rfl (by decide) ?_
          refine j_iload_n C dX6_prove_96 rfl rfl ?_
          refine j_if_eq (tgt := 104) C dX6_prove_97 (by decide) (fun h_97 => ?_) (fun h_97 => ?_)
          · refine j_iconst (v := nI 2) C dX6_prove_104 (by decide) ?_
            refine j_istore_n C dX6_prove_105 rfl (by decide) ?_
            refine j_aload_n C dX6_prove_106 rfl rfl ?_
            refine j_iload_n C dX6_prove_107 rfl rfl ?_
            refine g_cvI C vc_X6_136 (c_X6_endTelling l G rg _ _ 2 hss (by omega)) ⟨Nat.le_of_ble_eq_true rfl, Nat.le_of_ble_eq_true rfl⟩ (so1) rfl rfl (Nat.le_of_ble_eq_true rfl) ⟨Nat.zero_le _, Nat.zero_le _⟩ dX6_prove_108 (fun r_108 I_108 L_108 p_108 => ?_)
            obtain ⟨rfl, rfl, e1, e2, e3, e4, e5⟩ := p_108
            rw [prvQ_z hX] at hps hpr
            refine j_iret C hr dX6_prove_111 ⟨hpr.symm, ?_⟩
            rw [hps]
            exact RC_told hRC (fun k hk => by rw [e1 0 (by omega) (by omega), f1.at (by omega)]; exact i2 k hk) (by rw [e1 0 (by omega) (by omega), f1.at (by omega)]; exact i3) (fun q hq => by rw [e1 _ (by omega) (by omega), f1.at (by omega), i1 _ (by omega) (by omega)]) (tl_fin e3 (by rw [e4]; rfl) (fun k k1 k2 => by rw [e2 k k1, f1.at (by omega)]; exact i4 k k2)) e5 hxz (fun Y hY => by cases hY) (fun z => absurd (show nI 2 = 1 from z) (by decide))
          · exact absurd rfl h_97
        · exact absurd rfl h_60
  · refine j_iconst (v := (-1)) C dX6_prove_8 (by decide) ?_
    exact j_iret C hr dX6_prove_9 (by unfold proveR proveS; rw [h_5]; exact ⟨rfl, hRC⟩)
