/-! ===== the witness and the point over the class's cells ===== -/
/-- the cells of the witness hold V -/
def VR (o n : Nat) (L : LL) (V : Nat → Fr) : Prop := ∀ j, j < 5 → fr L (o + 32 + j) = V j ∧ WF (V j)
theorem VR_up {o n : Nat} {L : LL} {V : Nat → Fr} {k : Nat} {z : Fr} (h : VR o n L V) (hz : WF z) : VR o n (setF L (o + 32 + k) z) (va_up V k z) := fun j hj => by
  rw [fr_setF]
  unfold va_up
  by_cases e : j = k
  · subst e; simp [hz]
  · rw [if_neg (by omega), if_neg e]; exact h j hj
theorem VR_fm {o n lo hi : Nat} {L L1 : LL} {V : Nat → Fr} (h : VR o n L V) (hF : Fm lo hi L L1) (hd : hi ≤ o + 32 ∨ o + 37 ≤ lo) : VR o n L1 V := fun j hj => ⟨(hF.fr (by omega)).trans (h j hj).1, (h j hj).2⟩
theorem put_00 : fPut (decO 0) (decO 1) = some ((0, 1) : Fr) := red_00
theorem put_10 : fPut (decO 1) (decO 1) = some ((1, 1) : Fr) := red_10
theorem put_n1 : fPut (decO (-1)) (decO 1) = some ((-1, 1) : Fr) := by decide
theorem RelC_fm {n o : Nat} {I : II} {L L1 : LL} {E : ES} (h : RelC n o I L E) (hn : n < 5) (hF : Fm (o + 32) (o + 39) L L1) : RelC n o I L1 E :=
  h.cong hn rfl rfl (fun q hq => hF.fr (by omega)) rfl (fun _ _ => rfl) (fun q h1 h2 => hF.fr (by omega))
theorem smO_b {T : Nat → Bool} {N V : Nat → Fr} {n t : Nat} {a x y : Fr} (ht : t ≤ n) (h : T (ordn n t) = true) (h1 : fMul (N (ordn n t)) (V (ordn n t)) = some x) (h2 : fAdd a x = some y) : smO T N V n (n + 1 - t) a = smO T N V n (n + 1 - (t + 1)) y := by
  rw [smO_t ht h, h1]
  show ((fAdd a x).bind (smO T N V n (n + 1 - (t + 1)))) = _
  rw [h2]; rfl
theorem smO_n1 {T : Nat → Bool} {N V : Nat → Fr} {n t : Nat} {a : Fr} (ht : t ≤ n) (h : T (ordn n t) = true) (h1 : fMul (N (ordn n t)) (V (ordn n t)) = none) : smO T N V n (n + 1 - t) a = none := by
  rw [smO_t ht h, h1]; rfl
theorem smO_n2 {T : Nat → Bool} {N V : Nat → Fr} {n t : Nat} {a x : Fr} (ht : t ≤ n) (h : T (ordn n t) = true) (h1 : fMul (N (ordn n t)) (V (ordn n t)) = some x) (h2 : fAdd a x = none) : smO T N V n (n + 1 - t) a = none := by
  rw [smO_t ht h, h1]
  show ((fAdd a x).bind (smO T N V n (n + 1 - (t + 1)))) = _
  rw [h2]; rfl

set_option maxHeartbeats 4000000 in
set_option maxRecDepth 20000 in
theorem c_X0_clearWitness (l : Launch) (G : GT) (rg : RgT) (I : II) (L : LL) (o n : Nat) (ho : isEl rg o) : CtV l yX0_clearWitness cX0_clearWitness 2 none 3 G rg I L [.ref (gB G + o)] (fun I1 L1 => I = I1 ∧ Fm (o + 32) (o + 37) L L1 ∧ VR o n L1 z0) := by
  refine ctV_of [some (.ref (gB G + o)), none] rfl (Nat.le_of_ble_eq_true rfl) (by decide) ?_
  intro p e s m args below meth c C hr
  obtain ⟨ho1, ho2, ho3, ho4, ho5, ho6, ho7, ho8, ho9⟩ := id ho
  have lp : ∀ (fuel : Nat) (i : Nat) (L1 : LL), 5 < fuel + i → i ≤ 5 → Fm (o + 32) (o + 37) L L1 → (∀ j, j < i → fr L1 (o + 32 + j) = (0, 1)) → J p l e (rmD 3) s m args below meth c (MQ below (QV G rg (fun I1 L1 => I = I1 ∧ Fm (o + 32) (o + 37) L L1 ∧ VR o n L1 z0)) args s 0 0 (rg_A G rg)) 2 G rg 0 0 I L1 2 [some (.ref (gB G + o)), some (.int (nI i))] [] := by
    intro fuel
    induction fuel with
    | zero => intro i L1 h1 h2 hF1 hC; exfalso; omega
    | succ fuel ih_lp =>
      intro i L1 h1 h2 hF1 hC
      refine j_iload_n C dX0_clearWitness_2 rfl rfl ?_
      refine j_iconst (v := nI 5) C dX0_clearWitness_3 (by decide) ?_
      first | refine n_icmp_ge (tgt := 25) C (by omega) (by omega) dX0_clearWitness_4 (by decide) (fun h_4 => ?_) (fun h_4 => ?_) | refine j_icmp_ge (tgt := 25) C dX0_clearWitness_4 (by decide) (fun h_4 => ?_) (fun h_4 => ?_)
      · exact j_vret C hr dX0_clearWitness_25 (⟨rfl, hF1, fun j hj => ⟨hC j (by omega), WF_00⟩⟩)
      · refine j_aload_n C dX0_clearWitness_7 rfl rfl ?_
        refine g_getR C (by assumption) fl_X0_32 (by rfl) dX0_clearWitness_8 ?_
        refine j_iload_n C dX0_clearWitness_11 rfl rfl ?_
        refine g_aald3 C (ho5) (by omega) (by decide) (by rfl) (by omega) dX0_clearWitness_12 ?_
        refine j_lconst (v := 0) C dX0_clearWitness_13 (by decide) ?_
        refine j_lconst (v := 1) C dX0_clearWitness_14 (by decide) ?_
        have hF := ho6 i (by omega)
        refine g_cvI C vc_X0_102 (c_X2_put l G rg _ _ _ _ _ hF) ⟨Nat.le_of_ble_eq_true rfl, Nat.le_of_ble_eq_true rfl⟩ (hF) rfl rfl (Nat.le_of_ble_eq_true rfl) ⟨Nat.zero_le _, Nat.zero_le _⟩ dX0_clearWitness_15 (fun r_15 I_15 L_15 p_15 => ?_)
        obtain ⟨rfl, rfl, rfl⟩ := Put_some p_15 put_00
        refine j_pop C dX0_clearWitness_18 rfl ?_
        first | refine n_iinc (n := 1) C dX0_clearWitness_19 rfl (by decide) ?_ | refine j_iinc C dX0_clearWitness_19 rfl rfl (by decide) ?_
        refine j_goto (tgt := 2) C dX0_clearWitness_22 (by decide) ?_
        refine ih_lp (i + 1) _ (by omega) (by omega) (hF1.set (by omega) (by omega)) (fun j hj => ?_)
        rw [fr_setF]
        split
        · rfl
        · exact hC j (by omega)
  refine j_iconst (v := nI 0) C dX0_clearWitness_0 (by decide) ?_
  refine j_istore_n C dX0_clearWitness_1 rfl (by decide) ?_
  exact lp 6 0 L (by omega) (by omega) Fm.rf (fun j hj => absurd hj (Nat.not_lt_zero j))

set_option maxHeartbeats 4000000 in
set_option maxRecDepth 20000 in
theorem c_X0_sumOfOthers (l : Launch) (G : GT) (rg : RgT) (I : II) (L : LL) (o n sq : Nat) (E : ES) (V : Nat → Fr) (ho : isEl rg o) (hn : n < 5) (hR : RelC n o I L E) (hEW : EW n E) (hs : sq < eS E) (hV : VR o n L V) : CtI l yX0_sumOfOthers cX0_sumOfOthers 4 (some FieldType.boolean) 4 G rg I L [.ref (gB G + o), .ref (gB G + (o + 39 + 8 * sq))] (fun r I1 L1 => I = I1 ∧ Fm (o + 37) (o + 39) L L1 ∧ ((r = b2i true ∧ ∃ z, smO (eT E sq) (eN E sq) V n (n + 1) (0, 1) = some z ∧ fr L1 (o + 38) = z ∧ WF z) ∨ (r = b2i false ∧ smO (eT E sq) (eN E sq) V n (n + 1) (0, 1) = none))) := by
  refine ctI_of [some (.ref (gB G + o)), some (.ref (gB G + (o + 39 + 8 * sq))), none, none] rfl (Nat.le_of_ble_eq_true rfl) (by decide) ?_
  intro p e s m args below meth c C hr
  obtain ⟨ho1, ho2, ho3, ho4, ho5, ho6, ho7, ho8, ho9⟩ := id ho
  obtain ⟨hN, hS, hS5, hM, hLf, hSq⟩ := id hR
  have hsqr := ho9 sq (by omega)
  obtain ⟨hp1, hp2, hp3, hp4⟩ := hSq sq hs
  obtain ⟨-, -, hw⟩ := hEW.2 sq hs
  have lp : ∀ (fuel : Nat) (t : Nat) (L1 : LL) (acc : Fr), n + 1 < fuel + t → t ≤ n + 1 → Fm (o + 37) (o + 39) L L1 → fr L1 (o + 38) = acc → WF acc → smO (eT E sq) (eN E sq) V n (n + 1 - t) acc = smO (eT E sq) (eN E sq) V n (n + 1) (0, 1) → J p l e (rmD 4) s m args below meth c (MQ below (QI G rg (fun r I1 L1 => I = I1 ∧ Fm (o + 37) (o + 39) L L1 ∧ ((r = b2i true ∧ ∃ z, smO (eT E sq) (eN E sq) V n (n + 1) (0, 1) = some z ∧ fr L1 (o + 38) = z ∧ WF z) ∨ (r = b2i false ∧ smO (eT E sq) (eN E sq) V n (n + 1) (0, 1) = none)))) args s 0 0 (rg_A G rg)) 4 G rg 0 0 I L1 12 [some (.ref (gB G + o)), some (.ref (gB G + (o + 39 + 8 * sq))), some (.int (nI t)), none] [] := by
    intro fuel
    induction fuel with
    | zero => intro t L1 acc h1 h2 hG1 hA1 hWa he; exfalso; omega
    | succ fuel ih_lp =>
      intro t L1 acc h1 h2 hG1 hA1 hWa he
      refine j_iload_n C dX0_sumOfOthers_12 rfl rfl ?_
      refine j_aload_n C dX0_sumOfOthers_13 rfl rfl ?_
      refine g_getI C (by assumption) fl_X0_46 (by rfl) dX0_sumOfOthers_14 ?_
      refine t_i hN ?_
      first | refine n_icmp_gt (tgt := 88) C (by omega) (by omega) dX0_sumOfOthers_17 (by decide) (fun h_17 => ?_) (fun h_17 => ?_) | refine j_icmp_gt (tgt := 88) C dX0_sumOfOthers_17 (by decide) (fun h_17 => ?_) (fun h_17 => ?_)
      · refine j_iconst (v := nI 1) C dX0_sumOfOthers_88 (by decide) ?_
        exact j_zret C hr (by first | rfl | exact b2i_n _ rfl) dX0_sumOfOthers_89 (⟨rfl, hG1, Or.inl ⟨rfl, acc, by rw [← he, show n + 1 - t = 0 by omega]; rfl, hA1, hWa⟩⟩)
      · refine j_iload_n C dX0_sumOfOthers_20 rfl rfl ?_
        refine j_aload_n C dX0_sumOfOthers_21 rfl rfl ?_
        refine g_getI C (by assumption) fl_X0_46 (by rfl) dX0_sumOfOthers_22 ?_
        refine t_i hN ?_
        refine j_csI C sc_X0_87 (c_X6_inOrder l G rg _ _ _ _ (by omega) (by omega)) ⟨Nat.le_of_ble_eq_true rfl, Nat.le_of_ble_eq_true rfl⟩ rfl rfl (Nat.le_of_ble_eq_true rfl) ⟨Nat.zero_le _, Nat.zero_le _⟩ dX0_sumOfOthers_25 (fun r_25 I_25 L_25 p_25 => ?_)
        obtain ⟨rfl, rfl, rfl⟩ := p_25
        have o1 := ordn_le n t
        refine j_istore_n C dX0_sumOfOthers_28 rfl (by decide) ?_
        refine j_iload_n C dX0_sumOfOthers_29 rfl rfl ?_
        refine j_aload_n C dX0_sumOfOthers_30 rfl rfl ?_
        refine g_getI C (hsqr.1) fl_X0_133 (by rfl) dX0_sumOfOthers_31 ?_
        refine t_i hp1 ?_
        first | refine n_icmp_ne (tgt := 40) C (by omega) (by omega) dX0_sumOfOthers_34 (by decide) (fun h_34 => ?_) (fun h_34 => ?_) | refine j_icmp_ne (tgt := 40) C dX0_sumOfOthers_34 (by decide) (fun h_34 => ?_) (fun h_34 => ?_)
        · refine j_aload_n C dX0_sumOfOthers_40 rfl rfl ?_
          refine g_getR C (by assumption) fl_X0_39 (by rfl) dX0_sumOfOthers_41 ?_
          refine j_aload_n C dX0_sumOfOthers_44 rfl rfl ?_
          refine g_getR C (hsqr.1) fl_X0_114 (by rfl) dX0_sumOfOthers_45 ?_
          refine j_iload_n C dX0_sumOfOthers_48 rfl rfl ?_
          refine g_aald3 C (hsqr.2.2.1) (by omega) (by decide) (by rfl) (by omega) dX0_sumOfOthers_49 ?_
          refine j_aload_n C dX0_sumOfOthers_50 rfl rfl ?_
          refine g_getR C (by assumption) fl_X0_32 (by rfl) dX0_sumOfOthers_51 ?_
          refine j_iload_n C dX0_sumOfOthers_54 rfl rfl ?_
          refine g_aald3 C (ho5) (by omega) (by decide) (by rfl) (by omega) dX0_sumOfOthers_55 ?_
          have hFa : isF rg ((o + 39 + 8 * sq) + 3 + ordn n t) := hsqr.2.2.2 _ (by omega)
          have hFb : isF rg (o + 32 + ordn n t) := ho6 _ (by omega)
          refine g_cvI C vc_X0_121 (c_X2_product l G rg _ _ _ _ _ ho7 hFa hFb) ⟨Nat.le_of_ble_eq_true rfl, Nat.le_of_ble_eq_true rfl⟩ (ho7) rfl rfl (Nat.le_of_ble_eq_true rfl) ⟨Nat.zero_le _, Nat.zero_le _⟩ dX0_sumOfOthers_56 (fun r_56 I_56 L_56 p_56 => ?_)
          rw [show fr L1 ((o + 39 + 8 * sq) + 3 + ordn n t) = eN E sq (ordn n t) from (hG1.fr (by omega)).trans (by rw [show (o + 39 + 8 * sq) + 3 + ordn n t = o + 42 + 8 * sq + ordn n t by omega]; exact hp4 _ (by omega)), show fr L1 (o + 32 + ordn n t) = V (ordn n t) from (hG1.fr (by omega)).trans (hV _ (by omega)).1] at p_56
          obtain ⟨rfl, ⟨z_56, hz_56, rfl, rfl⟩ | ⟨hz_56, rfl, rfl⟩⟩ := p_56
          · refine j_if_eq (tgt := 80) C dX0_sumOfOthers_59 (by decide) (fun h_59 => ?_) (fun h_59 => ?_)
            · exact absurd h_59 (by decide)
            · refine j_aload_n C dX0_sumOfOthers_62 rfl rfl ?_
              refine g_getR C (by assumption) fl_X0_43 (by rfl) dX0_sumOfOthers_63 ?_
              refine j_aload_n C dX0_sumOfOthers_66 rfl rfl ?_
              refine g_getR C (by assumption) fl_X0_43 (by rfl) dX0_sumOfOthers_67 ?_
              refine j_aload_n C dX0_sumOfOthers_70 rfl rfl ?_
              refine g_getR C (by assumption) fl_X0_39 (by rfl) dX0_sumOfOthers_71 ?_
              refine g_cvI C vc_X0_143 (c_X2_sum l G rg _ _ _ _ _ ho8 ho8 ho7) ⟨Nat.le_of_ble_eq_true rfl, Nat.le_of_ble_eq_true rfl⟩ (ho8) rfl rfl (Nat.le_of_ble_eq_true rfl) ⟨Nat.zero_le _, Nat.zero_le _⟩ dX0_sumOfOthers_74 (fun r_74 I_74 L_74 p_74 => ?_)
              rw [fr_setF, if_neg (by omega), fr_setF, if_pos rfl, hA1] at p_74
              obtain ⟨rfl, ⟨z_74, hz_74, rfl, rfl⟩ | ⟨hz_74, rfl, rfl⟩⟩ := p_74
              · have hst : smO (eT E sq) (eN E sq) V n (n + 1 - t) acc = smO (eT E sq) (eN E sq) V n (n + 1 - (t + 1)) z_74 := by
                  cases hT : eT E sq (ordn n t) with
                  | true => exact smO_b (by omega) hT hz_56 hz_74
                  | false =>
                    rcases (hw (ordn n t)).2.2 hT with q | q
                    · exact absurd q h_34
                    · rw [q, fMul_0 (hV _ (by omega)).2] at hz_56
                      cases hz_56
                      rw [fAdd_0 hWa] at hz_74
                      cases hz_74
                      exact smO_f (by omega) hT
                refine j_if_ne (tgt := 82) C dX0_sumOfOthers_77 (by decide) (fun h_77 => ?_) (fun h_77 => ?_)
                · first | refine n_iinc (n := 1) C dX0_sumOfOthers_82 rfl (by decide) ?_ | refine j_iinc C dX0_sumOfOthers_82 rfl rfl (by decide) ?_
                  refine j_goto (tgt := 12) C dX0_sumOfOthers_85 (by decide) ?_
                  refine j_rm 3 ?_
                  first
                  | exact ih_lp (t + 1) L1 acc (by omega) (by omega) hG1 hA1 hWa (by rw [← he]; refine (smO_f (by omega) ?_).symm; cases hT : eT E sq (ordn n t) with | false => rfl | true => exact absurd h_34 ((hw _).2.1 hT).1)
                  | exact ih_lp (t + 1) _ z_74 (by omega) (by omega) ((hG1.set (by omega) (by omega)).set (by omega) (by omega)) (by rw [fr_setF, if_pos rfl]) (fAdd_WF hz_74) (by rw [← he, hst])
                · exact absurd h_77 (by decide)
              · have hTt : eT E sq (ordn n t) = true := by
                  cases hT : eT E sq (ordn n t) with
                  | true => rfl
                  | false =>
                    rcases (hw (ordn n t)).2.2 hT with q | q
                    · exact absurd q h_34
                    · rw [q, fMul_0 (hV _ (by omega)).2] at hz_56
                      cases hz_56
                      rw [fAdd_0 hWa] at hz_74
                      cases hz_74
                refine j_if_ne (tgt := 82) C dX0_sumOfOthers_77 (by decide) (fun h_77 => ?_) (fun h_77 => ?_)
                · exact absurd rfl h_77
                · refine j_iconst (v := nI 0) C dX0_sumOfOthers_80 (by decide) ?_
                  exact j_zret C hr (by first | rfl | exact b2i_n _ rfl) dX0_sumOfOthers_81 (by first | exact ⟨rfl, hG1, Or.inr ⟨rfl, by rw [← he, smO_n1 (by omega) hTt hz_56]⟩⟩ | exact ⟨rfl, hG1.set (by omega) (by omega), Or.inr ⟨rfl, by rw [← he, smO_n2 (by omega) hTt hz_56 hz_74]⟩⟩)
          · have hTt : eT E sq (ordn n t) = true := by cases hT : eT E sq (ordn n t) with | true => rfl | false => exact absurd ((hw (ordn n t)).2.2 hT) (fun q => q.elim h_34 (fun q => by rw [q, fMul_0 (hV _ (by omega)).2] at hz_56; cases hz_56))
            refine j_if_eq (tgt := 80) C dX0_sumOfOthers_59 (by decide) (fun h_59 => ?_) (fun h_59 => ?_)
            · refine j_iconst (v := nI 0) C dX0_sumOfOthers_80 (by decide) ?_
              exact j_zret C hr (by first | rfl | exact b2i_n _ rfl) dX0_sumOfOthers_81 (by first | exact ⟨rfl, hG1, Or.inr ⟨rfl, by rw [← he, smO_n1 (by omega) hTt hz_56]⟩⟩ | exact ⟨rfl, hG1.set (by omega) (by omega), Or.inr ⟨rfl, by rw [← he, smO_n2 (by omega) hTt hz_56 hz_74]⟩⟩)
            · exact absurd rfl h_59
        · refine j_goto (tgt := 82) C dX0_sumOfOthers_37 (by decide) ?_
          first | refine n_iinc (n := 1) C dX0_sumOfOthers_82 rfl (by decide) ?_ | refine j_iinc C dX0_sumOfOthers_82 rfl rfl (by decide) ?_
          refine j_goto (tgt := 12) C dX0_sumOfOthers_85 (by decide) ?_
          refine j_rm 3 ?_
          first
          | exact ih_lp (t + 1) L1 acc (by omega) (by omega) hG1 hA1 hWa (by rw [← he]; refine (smO_f (by omega) ?_).symm; cases hT : eT E sq (ordn n t) with | false => rfl | true => exact absurd h_34 ((hw _).2.1 hT).1)
          | exact ih_lp (t + 1) _ z_74 (by omega) (by omega) ((hG1.set (by omega) (by omega)).set (by omega) (by omega)) (by rw [fr_setF, if_pos rfl]) (fAdd_WF hz_74) (by rw [← he, hst])
  refine j_aload_n C dX0_sumOfOthers_0 rfl rfl ?_
  refine g_getR C (by assumption) fl_X0_43 (by rfl) dX0_sumOfOthers_1 ?_
  refine j_lconst (v := 0) C dX0_sumOfOthers_4 (by decide) ?_
  refine j_lconst (v := 1) C dX0_sumOfOthers_5 (by decide) ?_
  refine g_cvI C vc_X0_102 (c_X2_put l G rg _ _ _ _ _ ho8) ⟨Nat.le_of_ble_eq_true rfl, Nat.le_of_ble_eq_true rfl⟩ (ho8) rfl rfl (Nat.le_of_ble_eq_true rfl) ⟨Nat.zero_le _, Nat.zero_le _⟩ dX0_sumOfOthers_6 (fun r_6 I_6 L_6 p_6 => ?_)
  obtain ⟨rfl, rfl, rfl⟩ := Put_some p_6 put_00
  refine j_pop C dX0_sumOfOthers_9 rfl ?_
  refine j_iconst (v := nI 0) C dX0_sumOfOthers_10 (by decide) ?_
  refine j_istore_n C dX0_sumOfOthers_11 rfl (by decide) ?_
  exact lp (n + 2) 0 _ (0, 1) (by omega) (by omega) (Fm.rf.set (by omega) (by omega)) (by rw [fr_setF, if_pos rfl]) WF_00 rfl

set_option maxHeartbeats 4000000 in
set_option maxRecDepth 20000 in
theorem c_X0_goBack (l : Launch) (G : GT) (rg : RgT) (I : II) (L : LL) (o n : Nat) (E : ES) (V : Nat → Fr) (ho : isEl rg o) (hn : n < 5) (hR : RelC n o I L E) (hEW : EW n E) (hV : VR o n L V) : CtI l yX0_goBack cX0_goBack 3 (some FieldType.boolean) 5 G rg I L [.ref (gB G + o)] (fun r I1 L1 => I = I1 ∧ Fm (o + 32) (o + 39) L L1 ∧ ((r = b2i true ∧ ∃ V1, gbO n E (eS E) V = some V1 ∧ VR o n L1 V1) ∨ (r = b2i false ∧ gbO n E (eS E) V = none))) := by
  refine ctI_of [some (.ref (gB G + o)), none, none] rfl (Nat.le_of_ble_eq_true rfl) (by decide) ?_
  intro p e s m args below meth c C hr
  obtain ⟨ho1, ho2, ho3, ho4, ho5, ho6, ho7, ho8, ho9⟩ := id ho
  obtain ⟨hN, hS, hS5, hM, hLf, hSq⟩ := id hR
  have lp : ∀ (k : Nat) (L1 : LL) (Vk : Nat → Fr), k ≤ eS E → Fm (o + 32) (o + 39) L L1 → VR o n L1 Vk → gbO n E k Vk = gbO n E (eS E) V → J p l e (rmD 5) s m args below meth c (MQ below (QI G rg (fun r I1 L1 => I = I1 ∧ Fm (o + 32) (o + 39) L L1 ∧ ((r = b2i true ∧ ∃ V1, gbO n E (eS E) V = some V1 ∧ VR o n L1 V1) ∨ (r = b2i false ∧ gbO n E (eS E) V = none)))) args s 0 0 (rg_A G rg)) 3 G rg 0 0 I L1 7 [some (.ref (gB G + o)), some (.int (nI k - nI 1)), none] [] := by
    intro k
    induction k with
    | zero =>
      intro L1 Vk h1 hG1 hVk he
      refine j_iload_n C dX0_goBack_7 rfl rfl ?_
      refine j_if_lt (tgt := 62) C dX0_goBack_8 (by decide) (fun h_8 => ?_) (fun h_8 => ?_)
      · refine j_iconst (v := nI 1) C dX0_goBack_62 (by decide) ?_
        exact j_zret C hr (by first | rfl | exact b2i_n _ rfl) dX0_goBack_63 (⟨rfl, hG1, Or.inl ⟨rfl, Vk, by rw [← he]; rfl, hVk⟩⟩)
      · exact absurd h_8 (by decide)
    | succ k ih =>
      intro L1 Vk h1 hG1 hVk he
      rw [nat_sub1]
      refine j_iload_n C dX0_goBack_7 rfl rfl ?_
      refine j_if_lt (tgt := 62) C dX0_goBack_8 (by decide) (fun h_8 => ?_) (fun h_8 => ?_)
      · exact absurd h_8 (nI_pos (by omega))
      · refine j_aload_n C dX0_goBack_11 rfl rfl ?_
        refine g_getR C (by assumption) fl_X0_24 (by rfl) dX0_goBack_12 ?_
        refine j_iload_n C dX0_goBack_15 rfl rfl ?_
        obtain ⟨hp1, hp2, hp3, hp4⟩ := hSq k (by omega)
        have hsqr := ho9 k (by omega)
        have hRk := RelC_fm hR hn hG1
        refine g_aald4 C (ho4) (by omega) (by decide) (by rfl) (by omega) dX0_goBack_16 ?_
        refine j_astore_n C dX0_goBack_17 rfl (by decide) ?_
        refine j_aload_n C dX0_goBack_18 rfl rfl ?_
        refine j_aload_n C dX0_goBack_19 rfl rfl ?_
        refine g_cvI C vc_X0_129 (c_X0_sumOfOthers l G rg _ _ o n k E Vk ho hn hRk hEW (by omega) hVk) ⟨Nat.le_of_ble_eq_true rfl, Nat.le_of_ble_eq_true rfl⟩ (ho1) rfl rfl (Nat.le_of_ble_eq_true rfl) ⟨Nat.zero_le _, Nat.zero_le _⟩ dX0_goBack_20 (fun r_20 I_20 L_20 p_20 => ?_)
        obtain ⟨rfl, hG20, ⟨rfl, z, hz, hz8, hWz⟩ | ⟨rfl, hz⟩⟩ := p_20
        · refine j_if_ne (tgt := 28) C dX0_goBack_23 (by decide) (fun h_23 => ?_) (fun h_23 => ?_)
          · refine j_aload_n C dX0_goBack_28 rfl rfl ?_
            refine g_getR C (by assumption) fl_X0_32 (by rfl) dX0_goBack_29 ?_
            refine j_aload_n C dX0_goBack_32 rfl rfl ?_
            refine g_getI C (hsqr.1) fl_X0_133 (by rfl) dX0_goBack_33 ?_
            refine t_i hp1 ?_
            refine g_aald3 C (ho5) (by omega) (by decide) (by rfl) (by omega) dX0_goBack_36 ?_
            refine j_aload_n C dX0_goBack_37 rfl rfl ?_
            refine g_getR C (by assumption) fl_X0_43 (by rfl) dX0_goBack_38 ?_
            refine g_getL C (ho8) fl_X0_136 (by rfl) dX0_goBack_41 ?_
            refine t_l (congrArg Prod.fst hz8) ?_
            refine j_lneg C dX0_goBack_44 ?_
            refine j_aload_n C dX0_goBack_45 rfl rfl ?_
            refine g_getR C (by assumption) fl_X0_43 (by rfl) dX0_goBack_46 ?_
            refine g_getL C (ho8) fl_X0_140 (by rfl) dX0_goBack_49 ?_
            refine t_l (congrArg Prod.snd hz8) ?_
            have hFv : isF rg (o + 32 + eP E k) := ho6 _ (by omega)
            refine g_cvI C vc_X0_102 (c_X2_put l G rg _ _ _ _ _ hFv) ⟨Nat.le_of_ble_eq_true rfl, Nat.le_of_ble_eq_true rfl⟩ (hFv) rfl rfl (Nat.le_of_ble_eq_true rfl) ⟨Nat.zero_le _, Nat.zero_le _⟩ dX0_goBack_52 (fun r_52 I_52 L_52 p_52 => ?_)
            obtain ⟨rfl, rfl, rfl⟩ := Put_some p_52 (put_ng hWz)
            refine j_pop C dX0_goBack_55 rfl ?_
            refine j_iinc (v := nI k - nI 1) C dX0_goBack_56 rfl (m1_sub k) (by decide) ?_
            refine j_goto (tgt := 7) C dX0_goBack_59 (by decide) ?_
            refine j_rm 2 ?_
            exact ih _ _ (by omega) ((hG1.trans (hG20.mono (by omega) (by omega))).set (by omega) (by omega)) (VR_up (VR_fm hVk hG20 (by omega)) hWz.ng) (by rw [← he, gbO, hz]; rfl)
          · exact absurd h_23 (by decide)
        · refine j_if_ne (tgt := 28) C dX0_goBack_23 (by decide) (fun h_23 => ?_) (fun h_23 => ?_)
          · exact absurd rfl h_23
          · refine j_iconst (v := nI 0) C dX0_goBack_26 (by decide) ?_
            exact j_zret C hr (by first | rfl | exact b2i_n _ rfl) dX0_goBack_27 (⟨rfl, hG1.trans (hG20.mono (by omega) (by omega)), Or.inr ⟨rfl, by rw [← he, gbO, hz]; rfl⟩⟩)
  refine j_aload_n C dX0_goBack_0 rfl rfl ?_
  refine g_getI C (by assumption) fl_X0_50 (by rfl) dX0_goBack_1 ?_
  refine t_i hS ?_
  refine j_iconst (v := nI 1) C dX0_goBack_4 (by decide) ?_
  refine j_isub C dX0_goBack_5 ?_
  refine j_istore_n C dX0_goBack_6 rfl (by decide) ?_
  exact lp (eS E) L V (Nat.le_refl _) Fm.rf hV rfl

set_option maxHeartbeats 4000000 in
set_option maxRecDepth 20000 in
theorem c_X0_findZero (l : Launch) (G : GT) (rg : RgT) (I : II) (L : LL) (o n : Nat) (E : ES) (ho : isEl rg o) (hn : n < 5) (hR : RelC n o I L E) (hEW : EW n E) : CtI l yX0_findZero cX0_findZero 1 (some FieldType.boolean) 6 G rg I L [.ref (gB G + o)] (fun r I1 L1 => I = I1 ∧ Fm (o + 32) (o + 39) L L1 ∧ ((r = b2i true ∧ ∃ V1, gbO n E (eS E) (va_up z0 0 (1, 1)) = some V1 ∧ VR o n L1 V1) ∨ (r = b2i false ∧ gbO n E (eS E) (va_up z0 0 (1, 1)) = none))) := by
  refine ctI_of [some (.ref (gB G + o))] rfl (Nat.le_of_ble_eq_true rfl) (by decide) ?_
  intro p e s m args below meth c C hr
  obtain ⟨ho1, ho2, ho3, ho4, ho5, ho6, ho7, ho8, ho9⟩ := id ho
  refine j_aload_n C dX0_findZero_0 rfl rfl ?_
  refine g_cvV C vc_X0_99 (c_X0_clearWitness l G rg _ _ o n ho) ⟨Nat.le_of_ble_eq_true rfl, Nat.le_of_ble_eq_true rfl⟩ (ho1) rfl rfl (Nat.le_of_ble_eq_true rfl) ⟨Nat.zero_le _, Nat.zero_le _⟩ dX0_findZero_1 (fun I_1 L_1 p_1 => ?_)
  obtain ⟨rfl, hG1, hV1⟩ := p_1
  refine j_aload_n C dX0_findZero_4 rfl rfl ?_
  refine g_getR C (by assumption) fl_X0_32 (by rfl) dX0_findZero_5 ?_
  refine j_iconst (v := nI 0) C dX0_findZero_8 (by decide) ?_
  refine g_aald3 C (ho5) (by omega) (by decide) (by rfl) (by omega) dX0_findZero_9 ?_
  refine j_lconst (v := 1) C dX0_findZero_10 (by decide) ?_
  refine j_lconst (v := 1) C dX0_findZero_11 (by decide) ?_
  have hF0 : isF rg (o + 32 + 0) := ho6 0 (by omega)
  refine g_cvI C vc_X0_102 (c_X2_put l G rg _ _ _ _ _ hF0) ⟨Nat.le_of_ble_eq_true rfl, Nat.le_of_ble_eq_true rfl⟩ (hF0) rfl rfl (Nat.le_of_ble_eq_true rfl) ⟨Nat.zero_le _, Nat.zero_le _⟩ dX0_findZero_12 (fun r_12 I_12 L_12 p_12 => ?_)
  obtain ⟨rfl, rfl, rfl⟩ := Put_some p_12 put_10
  have hG2 : Fm (o + 32) (o + 39) L (setF L_1 (o + 32 + 0) (1, 1)) := (hG1.mono (by omega) (by omega)).set (by omega) (by omega)
  refine j_pop C dX0_findZero_15 rfl ?_
  refine j_aload_n C dX0_findZero_16 rfl rfl ?_
  refine g_cvI C vc_X0_108 (c_X0_goBack l G rg _ _ o n E (va_up z0 0 (1, 1)) ho hn (RelC_fm hR hn hG2) hEW (VR_up hV1 WF_10)) ⟨Nat.le_of_ble_eq_true rfl, Nat.le_of_ble_eq_true rfl⟩ (ho1) rfl rfl (Nat.le_of_ble_eq_true rfl) ⟨Nat.zero_le _, Nat.zero_le _⟩ dX0_findZero_17 (fun r_17 I_17 L_17 p_17 => ?_)
  obtain ⟨rfl, hG3, hq⟩ := p_17
  exact j_zret C hr (by rcases hq with ⟨rfl, -⟩ | ⟨rfl, -⟩ <;> rfl) dX0_findZero_20 (⟨rfl, hG2.trans hG3, hq⟩)

set_option maxHeartbeats 4000000 in
set_option maxRecDepth 20000 in
theorem c_X0_findNegative (l : Launch) (G : GT) (rg : RgT) (I : II) (L : LL) (o n k : Nat) (jo : Option Nat) (E : ES) (ho : isEl rg o) (hn : n < 5) (hR : RelC n o I L E) (hEW : EW n E) (h8 : I o 8 = nI k) (h9 : I o 9 = ngO jo) (hk : k ≤ n) (hjo : ∀ j, jo = some j → j ≤ n) : CtI l yX0_findNegative cX0_findNegative 2 (some FieldType.boolean) 6 G rg I L [.ref (gB G + o)] (fun r I1 L1 => I = I1 ∧ Fm (o + 32) (o + 39) L L1 ∧ ((r = b2i true ∧ ∃ V1, gbO n E (eS E) (wit0 k jo (eM E)) = some V1 ∧ VR o n L1 V1) ∨ (r = b2i false ∧ gbO n E (eS E) (wit0 k jo (eM E)) = none))) := by
  refine ctI_of [some (.ref (gB G + o)), none] rfl (Nat.le_of_ble_eq_true rfl) (by decide) ?_
  intro p e s m args below meth c C hr
  obtain ⟨ho1, ho2, ho3, ho4, ho5, ho6, ho7, ho8, ho9⟩ := id ho
  obtain ⟨hN, hS, hS5, hM, hLf, hSq⟩ := id hR
  refine j_aload_n C dX0_findNegative_0 rfl rfl ?_
  refine g_cvV C vc_X0_99 (c_X0_clearWitness l G rg _ _ o n ho) ⟨Nat.le_of_ble_eq_true rfl, Nat.le_of_ble_eq_true rfl⟩ (ho1) rfl rfl (Nat.le_of_ble_eq_true rfl) ⟨Nat.zero_le _, Nat.zero_le _⟩ dX0_findNegative_1 (fun I_1 L_1 p_1 => ?_)
  obtain ⟨rfl, hG1, hV1⟩ := p_1
  refine j_aload_n C dX0_findNegative_4 rfl rfl ?_
  refine g_getR C (by assumption) fl_X0_32 (by rfl) dX0_findNegative_5 ?_
  refine j_aload_n C dX0_findNegative_8 rfl rfl ?_
  refine g_getI C (by assumption) fl_X0_53 (by rfl) dX0_findNegative_9 ?_
  refine t_i h8 ?_
  refine g_aald3 C (ho5) (by omega) (by decide) (by rfl) (by omega) dX0_findNegative_12 ?_
  refine j_lconst (v := 1) C dX0_findNegative_13 (by decide) ?_
  refine j_lconst (v := 1) C dX0_findNegative_14 (by decide) ?_
  have hF0 : isF rg (o + 32 + k) := ho6 k (by omega)
  refine g_cvI C vc_X0_102 (c_X2_put l G rg _ _ _ _ _ hF0) ⟨Nat.le_of_ble_eq_true rfl, Nat.le_of_ble_eq_true rfl⟩ (hF0) rfl rfl (Nat.le_of_ble_eq_true rfl) ⟨Nat.zero_le _, Nat.zero_le _⟩ dX0_findNegative_15 (fun r_15 I_15 L_15 p_15 => ?_)
  obtain ⟨rfl, rfl, rfl⟩ := Put_some p_15 put_10
  have hG2 : Fm (o + 32) (o + 39) L (setF L_1 (o + 32 + k) (1, 1)) := (hG1.mono (by omega) (by omega)).set (by omega) (by omega)
  have hV2 := VR_up (k := k) hV1 WF_10
  rcases jo with _ | j
  · refine j_pop C dX0_findNegative_18 rfl ?_
    refine j_aload_n C dX0_findNegative_19 rfl rfl ?_
    refine g_getI C (by assumption) fl_X0_56 (by rfl) dX0_findNegative_20 ?_
    refine t_i (y := -1) h9 ?_
    refine j_iconst (v := (-1)) C dX0_findNegative_23 (by decide) ?_
    refine j_icmp_eq (tgt := 79) C dX0_findNegative_24 (by decide) (fun h_24 => ?_) (fun h_24 => ?_)
    · refine j_aload_n C dX0_findNegative_79 rfl rfl ?_
      refine g_cvI C vc_X0_108 (c_X0_goBack l G rg _ _ o n E (wit0 k none (eM E)) ho hn (RelC_fm hR hn hG2) hEW hV2) ⟨Nat.le_of_ble_eq_true rfl, Nat.le_of_ble_eq_true rfl⟩ (ho1) rfl rfl (Nat.le_of_ble_eq_true rfl) ⟨Nat.zero_le _, Nat.zero_le _⟩ dX0_findNegative_80 (fun r_80 I_80 L_80 p_80 => ?_)
      obtain ⟨rfl, hG3, hq⟩ := p_80
      exact j_zret C hr (by rcases hq with ⟨rfl, -⟩ | ⟨rfl, -⟩ <;> rfl) dX0_findNegative_83 (⟨rfl, hG2.trans hG3, hq⟩)
    · exact absurd rfl h_24
  · have hj := hjo j rfl
    refine j_pop C dX0_findNegative_18 rfl ?_
    refine j_aload_n C dX0_findNegative_19 rfl rfl ?_
    refine g_getI C (by assumption) fl_X0_56 (by rfl) dX0_findNegative_20 ?_
    refine t_i (y := nI j) h9 ?_
    refine j_iconst (v := (-1)) C dX0_findNegative_23 (by decide) ?_
    refine j_icmp_eq (tgt := 79) C dX0_findNegative_24 (by decide) (fun h_24 => ?_) (fun h_24 => ?_)
    · exact absurd h_24 (nI_m1 (by omega))
    · refine j_aload_n C dX0_findNegative_27 rfl rfl ?_
      refine g_getR C (by assumption) fl_X0_12 (by rfl) dX0_findNegative_28 ?_
      refine j_aload_n C dX0_findNegative_31 rfl rfl ?_
      refine g_getI C (by assumption) fl_X0_53 (by rfl) dX0_findNegative_32 ?_
      refine t_i h8 ?_
      refine j_aload_n C dX0_findNegative_35 rfl rfl ?_
      refine g_getI C (by assumption) fl_X0_56 (by rfl) dX0_findNegative_36 ?_
      refine t_i (y := nI j) h9 ?_
      refine g_cvR C vc_X0_91 (c_X3_at l G rg _ _ _ _ _ ho2 (by omega) (by omega)) ⟨Nat.le_of_ble_eq_true rfl, Nat.le_of_ble_eq_true rfl⟩ (ho2.1) rfl rfl (Nat.le_of_ble_eq_true rfl) ⟨Nat.zero_le _, Nat.zero_le _⟩ dX0_findNegative_39 (fun r_39 I_39 L_39 p_39 => ?_)
      obtain ⟨rfl, rfl, rfl⟩ := p_39
      have hFx : isF rg (o + 1 + 2 + (k * 5 + j)) := ho2.2.2 _ (by omega)
      refine g_cvI C vc_X0_95 (c_X2_sign l G rg _ _ _ hFx) ⟨Nat.le_of_ble_eq_true rfl, Nat.le_of_ble_eq_true rfl⟩ (hFx) rfl rfl (Nat.le_of_ble_eq_true rfl) ⟨Nat.zero_le _, Nat.zero_le _⟩ dX0_findNegative_42 (fun r_42 I_42 L_42 p_42 => ?_)
      obtain ⟨rfl, rfl, rfl⟩ := p_42
      rw [show setF L_1 (o + 32 + k) (1, 1) (o + 1 + 2 + (k * 5 + j)) 0 = (eM E k j).1 from congrArg Prod.fst ((hG2.fr (by omega)).trans (hM k j (by omega) (by omega)))]
      refine j_if_le (tgt := 52) C dX0_findNegative_45 (by decide) (fun h_45 => ?_) (fun h_45 => ?_)
      · refine j_iconst (v := nI 0) C dX0_findNegative_52 (by decide) ?_
        refine j_istore_n C dX0_findNegative_53 rfl (by decide) ?_
        refine j_aload_n C dX0_findNegative_54 rfl rfl ?_
        refine g_getR C (by assumption) fl_X0_32 (by rfl) dX0_findNegative_55 ?_
        refine j_aload_n C dX0_findNegative_58 rfl rfl ?_
        refine g_getI C (by assumption) fl_X0_56 (by rfl) dX0_findNegative_59 ?_
        refine t_i (y := nI j) h9 ?_
        refine g_aald3 C (ho5) (by omega) (by decide) (by rfl) (by omega) dX0_findNegative_62 ?_
        refine j_iload_n C dX0_findNegative_63 rfl rfl ?_
        refine j_if_eq (tgt := 73) C dX0_findNegative_64 (by decide) (fun h_64 => ?_) (fun h_64 => ?_)
        · refine j_lconst (v := 1) C dX0_findNegative_73 (by decide) ?_
          refine j_lconst (v := 1) C dX0_findNegative_74 (by decide) ?_
          have hF3 : isF rg (o + 32 + j) := ho6 j (by omega)
          refine g_cvI C vc_X0_102 (c_X2_put l G rg _ _ _ _ _ hF3) ⟨Nat.le_of_ble_eq_true rfl, Nat.le_of_ble_eq_true rfl⟩ (hF3) rfl rfl (Nat.le_of_ble_eq_true rfl) ⟨Nat.zero_le _, Nat.zero_le _⟩ dX0_findNegative_75 (fun r_75 I_75 L_75 p_75 => ?_)
          obtain ⟨rfl, rfl, rfl⟩ := Put_some p_75 put_10
          have hVj : VR o n (setF (setF L_1 (o + 32 + k) (1, 1)) (o + 32 + j) (1, 1)) (wit0 k (some j) (eM E)) := by rw [show wit0 k (some j) (eM E) = va_up (va_up z0 k (1, 1)) j (1, 1) from by unfold wit0; simp only; rw [if_neg (by rw [Int32.not_lt]; exact h_45)]]; exact VR_up hV2 WF_10
          refine j_pop C dX0_findNegative_78 rfl ?_
          refine j_aload_n C dX0_findNegative_79 rfl rfl ?_
          refine g_cvI C vc_X0_108 (c_X0_goBack l G rg _ _ o n E (wit0 k (some j) (eM E)) ho hn (RelC_fm hR hn (hG2.set (by omega) (by omega))) hEW hVj) ⟨Nat.le_of_ble_eq_true rfl, Nat.le_of_ble_eq_true rfl⟩ (ho1) rfl rfl (Nat.le_of_ble_eq_true rfl) ⟨Nat.zero_le _, Nat.zero_le _⟩ dX0_findNegative_80 (fun r_80 I_80 L_80 p_80 => ?_)
          obtain ⟨rfl, hG3, hq⟩ := p_80
          exact j_zret C hr (by rcases hq with ⟨rfl, -⟩ | ⟨rfl, -⟩ <;> rfl) dX0_findNegative_83 (⟨rfl, (hG2.set (by omega) (by omega)).trans hG3, hq⟩)
        · exact absurd rfl h_64
      · refine j_iconst (v := nI 1) C dX0_findNegative_48 (by decide) ?_
        refine j_goto (tgt := 53) C dX0_findNegative_49 (by decide) ?_
        refine j_istore_n C dX0_findNegative_53 rfl (by decide) ?_
        refine j_aload_n C dX0_findNegative_54 rfl rfl ?_
        refine g_getR C (by assumption) fl_X0_32 (by rfl) dX0_findNegative_55 ?_
        refine j_aload_n C dX0_findNegative_58 rfl rfl ?_
        refine g_getI C (by assumption) fl_X0_56 (by rfl) dX0_findNegative_59 ?_
        refine t_i (y := nI j) h9 ?_
        refine g_aald3 C (ho5) (by omega) (by decide) (by rfl) (by omega) dX0_findNegative_62 ?_
        refine j_iload_n C dX0_findNegative_63 rfl rfl ?_
        refine j_if_eq (tgt := 73) C dX0_findNegative_64 (by decide) (fun h_64 => ?_) (fun h_64 => ?_)
        · exact absurd h_64 (by decide)
        · refine j_ldc2 C kc_X0_106 dX0_findNegative_67 ?_
          refine j_goto (tgt := 74) C dX0_findNegative_70 (by decide) ?_
          refine j_lconst (v := 1) C dX0_findNegative_74 (by decide) ?_
          have hF3 : isF rg (o + 32 + j) := ho6 j (by omega)
          refine g_cvI C vc_X0_102 (c_X2_put l G rg _ _ _ _ _ hF3) ⟨Nat.le_of_ble_eq_true rfl, Nat.le_of_ble_eq_true rfl⟩ (hF3) rfl rfl (Nat.le_of_ble_eq_true rfl) ⟨Nat.zero_le _, Nat.zero_le _⟩ dX0_findNegative_75 (fun r_75 I_75 L_75 p_75 => ?_)
          obtain ⟨rfl, rfl, rfl⟩ := Put_some p_75 put_n1
          have hVj : VR o n (setF (setF L_1 (o + 32 + k) (1, 1)) (o + 32 + j) (-1, 1)) (wit0 k (some j) (eM E)) := by rw [show wit0 k (some j) (eM E) = va_up (va_up z0 k (1, 1)) j (-1, 1) from by unfold wit0; simp only; rw [if_pos (by rw [← Int32.not_le]; exact h_45)]]; exact VR_up hV2 WF_n1
          refine j_pop C dX0_findNegative_78 rfl ?_
          refine j_aload_n C dX0_findNegative_79 rfl rfl ?_
          refine g_cvI C vc_X0_108 (c_X0_goBack l G rg _ _ o n E (wit0 k (some j) (eM E)) ho hn (RelC_fm hR hn (hG2.set (by omega) (by omega))) hEW hVj) ⟨Nat.le_of_ble_eq_true rfl, Nat.le_of_ble_eq_true rfl⟩ (ho1) rfl rfl (Nat.le_of_ble_eq_true rfl) ⟨Nat.zero_le _, Nat.zero_le _⟩ dX0_findNegative_80 (fun r_80 I_80 L_80 p_80 => ?_)
          obtain ⟨rfl, hG3, hq⟩ := p_80
          exact j_zret C hr (by rcases hq with ⟨rfl, -⟩ | ⟨rfl, -⟩ <;> rfl) dX0_findNegative_83 (⟨rfl, (hG2.set (by omega) (by omega)).trans hG3, hq⟩)
