/-! ===== the two eliminations ===== -/
def ngO (x : Option Nat) : Int32 := match x with
  | some j => nI j
  | none => -1
theorem RelC_89 {n o : Nat} {I : II} {L : LL} {E : ES} {x y : Int32} (h : RelC n o I L E) (hn : n < 5) : RelC n o (up2 (up2 I o 8 x) o 9 y) L E :=
  h.cong hn (by rw [up2_at, up2_at]; simp) (by rw [up2_at, up2_at]; simp) (fun _ _ => rfl) (by rw [up2_ne _ (by omega), up2_ne _ (by omega)]) (fun s _ => by rw [up2_ne _ (by omega), up2_ne _ (by omega)]) (fun _ _ _ => rfl)
theorem RelC_E0 {n o a : Nat} {I : II} {L L0 : LL} (hn : n < 5) (h6 : I o 6 = nI n) (h7 : I o 7 = nI 0) (hl : ∀ k, k < 5 → I (o + 29) k = b2i (decide (k ≤ n))) (M : Nat → Nat → Fr) (hm : ∀ i j, i ≤ n → j ≤ n → fr L (o + 3 + (i * 5 + j)) = M i j) : RelC n o I L (E0 n M) :=
  ⟨h6, h7, Nat.zero_le _, hm, hl, fun s hs => absurd hs (Nat.not_lt_zero s)⟩
/-- what run() has told -/
def RunQ (n o : Nat) (M : Nat → Nat → Fr) (r : Int32) (I1 : II) (L1 : LL) : Prop := ∃ (c k : Nat) (jo : Option Nat) (E : ES), elim n (n + 1) (E0 n M) = (c, k, jo, E) ∧ r = nI c ∧ (c ≠ 2 → RelC n o I1 L1 E) ∧ (c = 0 → I1 o 8 = nI k ∧ I1 o 9 = ngO jo)

set_option maxHeartbeats 4000000 in
set_option maxRecDepth 20000 in
theorem c_X0_run (l : Launch) (G : GT) (rg : RgT) (I : II) (L : LL) (o a n : Nat) (Mx : Nat → Nat → Fr) (ho : isEl rg o) (hqa : isMx rg a) (hd : a + 28 ≤ o ∨ o + 79 ≤ a) (hn : n < 5) (hMx : ∀ i j, i ≤ n → j ≤ n → fr L (a + 2 + (i * 5 + j)) = Mx i j) : CtI l yX0_run cX0_run 6 (some FieldType.int) 5 G rg I L [.ref (gB G + o), .ref (gB G + a), .int (nI n)] (fun r I1 L1 => Fm o (o + 79) I I1 ∧ Fm o (o + 79) L L1 ∧ RunQ n o Mx r I1 L1) := by
  refine ctI_of [some (.ref (gB G + o)), some (.ref (gB G + a)), some (.int (nI n)), none, none, none] rfl (Nat.le_of_ble_eq_true rfl) (by decide) ?_
  intro p e s m args below meth c C hr
  obtain ⟨ho1, ho2, ho3, ho4, ho5, ho6, ho7, ho8, ho9⟩ := id ho
  have lp : ∀ (fuel : Nat) (t : Nat) (I1 : II) (L1 : LL) (E : ES), n + 1 < fuel + t → t ≤ n + 1 → Fm o (o + 79) I I1 → Fm o (o + 79) L L1 → RelC n o I1 L1 E → EI n E → elim n (n + 1 - t) E = elim n (n + 1) (E0 n Mx) → J p l e (rmD 5) s m args below meth c (MQ below (QI G rg (fun r I1 L1 => Fm o (o + 79) I I1 ∧ Fm o (o + 79) L L1 ∧ RunQ n o Mx r I1 L1)) args s 0 0 (rg_A G rg)) 6 G rg 0 0 I1 L1 15 [some (.ref (gB G + o)), some (.ref (gB G + a)), some (.int (nI n)), some (.int (nI t)), none, none] [] := by
    intro fuel
    induction fuel with
    | zero => intro t I1 L1 E h1 h2 hFI hFL hR1 hE1 he; exfalso; omega
    | succ fuel ih_lp =>
      intro t I1 L1 E h1 h2 hFI hFL hR1 hE1 he
      refine j_iload_n C dX0_run_15 rfl rfl ?_
      refine j_aload_n C dX0_run_16 rfl rfl ?_
      refine g_getI C (by assumption) fl_X0_46 (by rfl) dX0_run_17 ?_
      refine t_i hR1.1 ?_
      first | refine n_icmp_gt (tgt := 101) C (by omega) (by omega) dX0_run_20 (by decide) (fun h_20 => ?_) (fun h_20 => ?_) | refine j_icmp_gt (tgt := 101) C dX0_run_20 (by decide) (fun h_20 => ?_) (fun h_20 => ?_)
      · refine j_iconst (v := nI 1) C dX0_run_101 (by decide) ?_
        exact j_iret C hr dX0_run_102 (⟨hFI, hFL, 1, 0, none, E, by rw [← he, show n + 1 - t = 0 by omega]; rfl, rfl, fun _ => hR1, fun h => absurd h (by decide)⟩)
      · refine j_aload_n C dX0_run_23 rfl rfl ?_
        refine j_iconst (v := (-1)) C dX0_run_24 (by decide) ?_
        refine g_cvI C vc_X0_68 (c_X0_firstLeftOfSign l G rg _ _ o n (-1) E ho hn hR1) ⟨Nat.le_of_ble_eq_true rfl, Nat.le_of_ble_eq_true rfl⟩ (ho1) rfl rfl (Nat.le_of_ble_eq_true rfl) ⟨Nat.zero_le _, Nat.zero_le _⟩ dX0_run_25 (fun r_25 I_25 L_25 p_25 => ?_)
        obtain ⟨rfl, rfl, hm_25⟩ := p_25
        rcases hff : ffo (isSg (-1) E) n (n + 1) with _ | k1
        all_goals rw [hff] at hm_25
        all_goals subst hm_25
        · refine j_istore C dX0_run_28 (by decide) ?_
          refine j_iload C dX0_run_30 rfl ?_
          refine j_iconst (v := (-1)) C dX0_run_32 (by decide) ?_
          refine j_icmp_eq (tgt := 49) C dX0_run_33 (by decide) (fun h_33 => ?_) (fun h_33 => ?_)
          · refine j_aload_n C dX0_run_49 rfl rfl ?_
            refine j_iconst (v := (1)) C dX0_run_50 (by decide) ?_
            refine g_cvI C vc_X0_68 (c_X0_firstLeftOfSign l G rg _ _ o n 1 E ho hn hR1) ⟨Nat.le_of_ble_eq_true rfl, Nat.le_of_ble_eq_true rfl⟩ (ho1) rfl rfl (Nat.le_of_ble_eq_true rfl) ⟨Nat.zero_le _, Nat.zero_le _⟩ dX0_run_51 (fun r_51 I_51 L_51 p_51 => ?_)
            obtain ⟨rfl, rfl, hm_51⟩ := p_51
            rcases hfp : ffo (isSg 1 E) n (n + 1) with _ | k2
            all_goals rw [hfp] at hm_51
            all_goals subst hm_51
            · refine j_istore C dX0_run_54 (by decide) ?_
              refine j_iload C dX0_run_56 rfl ?_
              refine j_iconst (v := (-1)) C dX0_run_58 (by decide) ?_
              refine j_icmp_ne (tgt := 75) C dX0_run_59 (by decide) (fun h_59 => ?_) (fun h_59 => ?_)
              · exact absurd rfl h_59
              · refine j_aload_n C dX0_run_62 rfl rfl ?_
                refine g_cvI C vc_X0_72 (c_X0_findPair l G rg _ _ o n E ho hn hR1) ⟨Nat.le_of_ble_eq_true rfl, Nat.le_of_ble_eq_true rfl⟩ (ho1) rfl rfl (Nat.le_of_ble_eq_true rfl) ⟨Nat.zero_le _, Nat.zero_le _⟩ dX0_run_63 (fun r_63 I_63 L_63 p_63 => ?_)
                obtain ⟨rfl, hm_63⟩ := p_63
                rcases hpr : ffp (isPr E) n (n + 1) with _ | ⟨pi, pj⟩
                all_goals rw [hpr] at hm_63
                all_goals obtain ⟨rfl, rfl⟩ := hm_63
                · refine j_if_eq (tgt := 73) C dX0_run_66 (by decide) (fun h_66 => ?_) (fun h_66 => ?_)
                  · refine j_iconst (v := nI 1) C dX0_run_73 (by decide) ?_
                    exact j_iret C hr dX0_run_74 (by first | exact ⟨hFI, hFL, 1, 0, none, E, by rw [← he, show n + 1 - t = (n - t) + 1 by omega, elim_done hff hfp hpr], rfl, fun _ => hR1, fun h => absurd h (by decide)⟩ | exact ⟨up2_I (up2_I hFI (by omega) (by omega)) (by omega) (by omega), hFL, 0, pi, some pj, E, by rw [← he, show n + 1 - t = (n - t) + 1 by omega, elim_pair hff hfp hpr], rfl, fun _ => RelC_89 hR1 hn, fun _ => ⟨by rw [up2_at, up2_at]; simp, by rw [up2_at]; simp [ngO]⟩⟩)
                  · exact absurd rfl h_66
                · refine j_if_eq (tgt := 73) C dX0_run_66 (by decide) (fun h_66 => ?_) (fun h_66 => ?_)
                  · exact absurd h_66 (by decide)
                  · refine j_iconst (v := nI 0) C dX0_run_69 (by decide) ?_
                    refine j_goto (tgt := 74) C dX0_run_70 (by decide) ?_
                    exact j_iret C hr dX0_run_74 (by first | exact ⟨hFI, hFL, 1, 0, none, E, by rw [← he, show n + 1 - t = (n - t) + 1 by omega, elim_done hff hfp hpr], rfl, fun _ => hR1, fun h => absurd h (by decide)⟩ | exact ⟨up2_I (up2_I hFI (by omega) (by omega)) (by omega) (by omega), hFL, 0, pi, some pj, E, by rw [← he, show n + 1 - t = (n - t) + 1 by omega, elim_pair hff hfp hpr], rfl, fun _ => RelC_89 hR1 hn, fun _ => ⟨by rw [up2_at, up2_at]; simp, by rw [up2_at]; simp [ngO]⟩⟩)
            · have hk2 := (ffo_some hfp).1
              have hsl := isSg_L (ffo_some hfp).2
              have hs5 := EI_lt hE1 hk2 hsl.1
              refine j_istore C dX0_run_54 (by decide) ?_
              refine j_iload C dX0_run_56 rfl ?_
              refine j_iconst (v := (-1)) C dX0_run_58 (by decide) ?_
              refine j_icmp_ne (tgt := 75) C dX0_run_59 (by decide) (fun h_59 => ?_) (fun h_59 => ?_)
              · refine j_aload_n C dX0_run_75 rfl rfl ?_
                refine j_iload C dX0_run_76 rfl ?_
                refine g_cvI C vc_X0_76 (c_X0_makeSquare l G rg _ _ o n k2 E ho hn hk2 hR1 (by omega) hE1.1 (by rw [hsl.2]; decide)) ⟨Nat.le_of_ble_eq_true rfl, Nat.le_of_ble_eq_true rfl⟩ (ho1) rfl rfl (Nat.le_of_ble_eq_true rfl) ⟨Nat.zero_le _, Nat.zero_le _⟩ dX0_run_78 (fun r_78 I_78 L_78 p_78 => ?_)
                obtain ⟨hF78, hG78, ⟨rfl, hrw, hRm⟩ | ⟨rfl, hrw⟩⟩ := p_78
                · refine j_if_eq (tgt := 93) C dX0_run_81 (by decide) (fun h_81 => ?_) (fun h_81 => ?_)
                  · exact absurd h_81 (by decide)
                  · refine j_aload_n C dX0_run_84 rfl rfl ?_
                    refine j_iload C dX0_run_85 rfl ?_
                    refine g_cvI C vc_X0_80 (c_X0_lessen l G rg _ _ o n k2 (midE E k2) ho hn hk2 hRm (Nat.succ_le_succ (Nat.zero_le _)) (va_up_self _ _ _)) ⟨Nat.le_of_ble_eq_true rfl, Nat.le_of_ble_eq_true rfl⟩ (ho1) rfl rfl (Nat.le_of_ble_eq_true rfl) ⟨Nat.zero_le _, Nat.zero_le _⟩ dX0_run_87 (fun r_87 I_87 L_87 p_87 => ?_)
                    obtain ⟨rfl, hG87, ⟨rfl, hls, hRl⟩ | ⟨rfl, hls⟩⟩ := p_87
                    · refine j_if_ne (tgt := 95) C dX0_run_90 (by decide) (fun h_90 => ?_) (fun h_90 => ?_)
                      · first | refine n_iinc (n := 1) C dX0_run_95 rfl (by decide) ?_ | refine j_iinc C dX0_run_95 rfl rfl (by decide) ?_
                        refine j_goto (tgt := 15) C dX0_run_98 (by decide) ?_
                        refine j_rm 4 ?_
                        refine j_rm 5 ?_
                        exact ih_lp (t + 1) _ _ (lsE n (midE E k2) k2) (by omega) (by omega) (hFI.trans hF78) ((hFL.trans hG78).trans (hG87.mono (by omega) (by omega))) hRl (EI_s hE1 hk2 hsl.1 (pvO_some hrw hls)) (by rw [← he, show n + 1 - t = (n - t) + 1 by omega, elim_go hff hfp (pvO_some hrw hls), show n + 1 - (t + 1) = n - t by omega])
                      · exact absurd h_90 (by decide)
                    · refine j_if_ne (tgt := 95) C dX0_run_90 (by decide) (fun h_90 => ?_) (fun h_90 => ?_)
                      · exact absurd rfl h_90
                      · refine j_iconst (v := nI 2) C dX0_run_93 (by decide) ?_
                        exact j_iret C hr dX0_run_94 (by first | exact ⟨hFI.trans hF78, (hFL.trans hG78).trans (hG87.mono (by omega) (by omega)), 2, 0, none, E, by rw [← he, show n + 1 - t = (n - t) + 1 by omega, elim_long hff hfp (pvO_none2 hls)], rfl, fun h => absurd rfl h, fun h => absurd h (by decide)⟩ | exact ⟨hFI.trans hF78, hFL.trans hG78, 2, 0, none, E, by rw [← he, show n + 1 - t = (n - t) + 1 by omega, elim_long hff hfp (pvO_none1 hrw)], rfl, fun h => absurd rfl h, fun h => absurd h (by decide)⟩)
                · refine j_if_eq (tgt := 93) C dX0_run_81 (by decide) (fun h_81 => ?_) (fun h_81 => ?_)
                  · refine j_iconst (v := nI 2) C dX0_run_93 (by decide) ?_
                    exact j_iret C hr dX0_run_94 (by first | exact ⟨hFI.trans hF78, (hFL.trans hG78).trans (hG87.mono (by omega) (by omega)), 2, 0, none, E, by rw [← he, show n + 1 - t = (n - t) + 1 by omega, elim_long hff hfp (pvO_none2 hls)], rfl, fun h => absurd rfl h, fun h => absurd h (by decide)⟩ | exact ⟨hFI.trans hF78, hFL.trans hG78, 2, 0, none, E, by rw [← he, show n + 1 - t = (n - t) + 1 by omega, elim_long hff hfp (pvO_none1 hrw)], rfl, fun h => absurd rfl h, fun h => absurd h (by decide)⟩)
                  · exact absurd rfl h_81
              · exact absurd h_59 (nI_m1 (by omega))
          · exact absurd rfl h_33
        · have hk1 := (ffo_some hff).1
          refine j_istore C dX0_run_28 (by decide) ?_
          refine j_iload C dX0_run_30 rfl ?_
          refine j_iconst (v := (-1)) C dX0_run_32 (by decide) ?_
          refine j_icmp_eq (tgt := 49) C dX0_run_33 (by decide) (fun h_33 => ?_) (fun h_33 => ?_)
          · exact absurd h_33 (nI_m1 (by omega))
          · refine j_aload_n C dX0_run_36 rfl rfl ?_
            refine j_iload C dX0_run_37 rfl ?_
            refine g_putI C (by assumption) fw_X0_53 (by rfl) rfl (fits_int _) dX0_run_39 ?_
            refine j_aload_n C dX0_run_42 rfl rfl ?_
            refine j_iconst (v := (-1)) C dX0_run_43 (by decide) ?_
            refine g_putI C (by assumption) fw_X0_56 (by rfl) rfl (fits_int _) dX0_run_44 ?_
            refine j_iconst (v := nI 0) C dX0_run_47 (by decide) ?_
            exact j_iret C hr dX0_run_48 (⟨up2_I (up2_I hFI (by omega) (by omega)) (by omega) (by omega), hFL, 0, k1, none, E, by rw [← he, show n + 1 - t = (n - t) + 1 by omega, elim_neg hff], rfl, fun _ => RelC_89 hR1 hn, fun _ => ⟨by rw [up2_at, up2_at]; simp, by rw [up2_at]; simp [ngO]⟩⟩)
  refine j_aload_n C dX0_run_0 rfl rfl ?_
  refine g_getR C (by assumption) fl_X0_12 (by rfl) dX0_run_1 ?_
  refine j_aload_n C dX0_run_4 rfl rfl ?_
  refine g_cvV C vc_X0_60 (c_X3_copy l G rg _ _ (o + 1) a ho2 hqa (by omega)) ⟨Nat.le_of_ble_eq_true rfl, Nat.le_of_ble_eq_true rfl⟩ (ho2.1) rfl rfl (Nat.le_of_ble_eq_true rfl) ⟨Nat.zero_le _, Nat.zero_le _⟩ dX0_run_5 (fun I_5 L_5 p_5 => ?_)
  obtain ⟨rfl, hF5, hC5⟩ := p_5
  refine j_aload_n C dX0_run_8 rfl rfl ?_
  refine j_iload_n C dX0_run_9 rfl rfl ?_
  refine g_cvV C vc_X0_64 (c_X0_start l G rg _ _ o n ho hn) ⟨Nat.le_of_ble_eq_true rfl, Nat.le_of_ble_eq_true rfl⟩ (ho1) rfl rfl (Nat.le_of_ble_eq_true rfl) ⟨Nat.zero_le _, Nat.zero_le _⟩ dX0_run_10 (fun I_10 L_10 p_10 => ?_)
  obtain ⟨hF10, rfl, hN10, hS10, hL10⟩ := p_10
  refine j_iconst (v := nI 0) C dX0_run_13 (by decide) ?_
  refine j_istore_n C dX0_run_14 rfl (by decide) ?_
  exact lp (n + 2) 0 _ _ (E0 n Mx) (by omega) (by omega) hF10 (hF5.mono (by omega) (by omega)) (RelC_E0 (a := a) (L0 := L) hn hN10 hS10 hL10 _ (fun i j hi hj => (hC5 (i * 5 + j) (by omega)).trans (hMx i j hi hj))) (EI_0 n _) rfl

set_option maxHeartbeats 4000000 in
set_option maxRecDepth 20000 in
theorem c_X0_runWithoutLooking (l : Launch) (G : GT) (rg : RgT) (I : II) (L : LL) (o fo n : Nat) (Mx : Nat → Nat → Fr) (ho : isEl rg o) (hf : isFm rg fo) (hn : n < 5) (hMx : ∀ i j, i ≤ n → j ≤ n → hv (I (fo + 1) (ix i j)) i j = Mx i j) : CtI l yX0_runWithoutLooking cX0_runWithoutLooking 7 (some FieldType.int) 5 G rg I L [.ref (gB G + o), .ref (gB G + fo), .int (nI n)] (fun r I1 L1 => Fm o (o + 79) I I1 ∧ Fm o (o + 79) L L1 ∧ r = plainF n (n + 1) 0 0 (E0 n Mx)) := by
  refine ctI_of [some (.ref (gB G + o)), some (.ref (gB G + fo)), some (.int (nI n)), none, none, none, none] rfl (Nat.le_of_ble_eq_true rfl) (by decide) ?_
  intro p e s m args below meth c C hr
  obtain ⟨ho1, ho2, ho3, ho4, ho5, ho6, ho7, ho8, ho9⟩ := id ho
  have lp : ∀ (fuel : Nat) (t ab : Nat) (I1 : II) (L1 : LL) (E : ES), n + 1 < fuel + t → t ≤ n + 1 → Fm o (o + 79) I I1 → Fm o (o + 79) L L1 → RelC n o I1 L1 E → EI n E → (∀ q, t ≤ q → q ≤ n → eL E (ordn n q) = true) → plainF n (n + 1 - t) t ab E = plainF n (n + 1) 0 0 (E0 n Mx) → J p l e (rmD 5) s m args below meth c (MQ below (QI G rg (fun r I1 L1 => Fm o (o + 79) I I1 ∧ Fm o (o + 79) L L1 ∧ r = plainF n (n + 1) 0 0 (E0 n Mx))) args s 0 0 (rg_A G rg)) 7 G rg 0 0 I1 L1 19 [some (.ref (gB G + o)), some (.ref (gB G + fo)), some (.int (nI n)), some (.int (nI ab)), some (.int (nI t)), none, none] [] := by
    intro fuel
    induction fuel with
    | zero => intro t ab I1 L1 E h1 h2 hFI hFL hR1 hE1 hLt he; exfalso; omega
    | succ fuel ih_lp =>
      intro t ab I1 L1 E h1 h2 hFI hFL hR1 hE1 hLt he
      refine j_iload C dX0_runWithoutLooking_19 rfl ?_
      refine j_aload_n C dX0_runWithoutLooking_21 rfl rfl ?_
      refine g_getI C (by assumption) fl_X0_46 (by rfl) dX0_runWithoutLooking_22 ?_
      refine t_i hR1.1 ?_
      first | refine n_icmp_gt (tgt := 101) C (by omega) (by omega) dX0_runWithoutLooking_25 (by decide) (fun h_25 => ?_) (fun h_25 => ?_) | refine j_icmp_gt (tgt := 101) C dX0_runWithoutLooking_25 (by decide) (fun h_25 => ?_) (fun h_25 => ?_)
      · refine j_iload_n C dX0_runWithoutLooking_101 rfl rfl ?_
        exact j_iret C hr dX0_runWithoutLooking_102 (⟨hFI, hFL, by rw [← he, show n + 1 - t = 0 by omega]; rfl⟩)
      · refine j_iload C dX0_runWithoutLooking_28 rfl ?_
        refine j_aload_n C dX0_runWithoutLooking_30 rfl rfl ?_
        refine g_getI C (by assumption) fl_X0_46 (by rfl) dX0_runWithoutLooking_31 ?_
        refine t_i hR1.1 ?_
        refine j_csI C sc_X0_87 (c_X6_inOrder l G rg _ _ _ _ (by omega) (by omega)) ⟨Nat.le_of_ble_eq_true rfl, Nat.le_of_ble_eq_true rfl⟩ rfl rfl (Nat.le_of_ble_eq_true rfl) ⟨Nat.zero_le _, Nat.zero_le _⟩ dX0_runWithoutLooking_34 (fun r_34 I_34 L_34 p_34 => ?_)
        obtain ⟨rfl, rfl, rfl⟩ := p_34
        have o1 := ordn_le n t
        have hlt := hLt t (Nat.le_refl t) h_25
        have hs5 := EI_lt hE1 o1 hlt
        refine j_istore C dX0_runWithoutLooking_37 (by decide) ?_
        refine j_aload_n C dX0_runWithoutLooking_39 rfl rfl ?_
        refine g_getR C (by assumption) fl_X0_12 (by rfl) dX0_runWithoutLooking_40 ?_
        refine j_iload C dX0_runWithoutLooking_43 rfl ?_
        refine j_iload C dX0_runWithoutLooking_45 rfl ?_
        refine g_cvR C vc_X0_91 (c_X3_at l G rg _ _ _ _ _ ho2 (by omega) (by omega)) ⟨Nat.le_of_ble_eq_true rfl, Nat.le_of_ble_eq_true rfl⟩ (ho2.1) rfl rfl (Nat.le_of_ble_eq_true rfl) ⟨Nat.zero_le _, Nat.zero_le _⟩ dX0_runWithoutLooking_47 (fun r_47 I_47 L_47 p_47 => ?_)
        obtain ⟨rfl, rfl, rfl⟩ := p_47
        have hFk : isF rg (o + 1 + 2 + (ordn n t * 5 + ordn n t)) := ho2.2.2 _ (by omega)
        refine g_cvI C vc_X0_95 (c_X2_sign l G rg _ _ _ hFk) ⟨Nat.le_of_ble_eq_true rfl, Nat.le_of_ble_eq_true rfl⟩ (hFk) rfl rfl (Nat.le_of_ble_eq_true rfl) ⟨Nat.zero_le _, Nat.zero_le _⟩ dX0_runWithoutLooking_50 (fun r_50 I_50 L_50 p_50 => ?_)
        obtain ⟨rfl, rfl, rfl⟩ := p_50
        rw [show L1 (o + 1 + 2 + (ordn n t * 5 + ordn n t)) 0 = (eM E (ordn n t) (ordn n t)).1 from congrArg Prod.fst (hR1.2.2.2.1 (ordn n t) (ordn n t) (by omega) (by omega))]
        refine j_istore C dX0_runWithoutLooking_53 (by decide) ?_
        refine j_iload C dX0_runWithoutLooking_55 rfl ?_
        refine j_if_ne (tgt := 66) C dX0_runWithoutLooking_57 (by decide) (fun h_57 => ?_) (fun h_57 => ?_)
        · refine j_iload C dX0_runWithoutLooking_66 rfl ?_
          refine j_if_le (tgt := 74) C dX0_runWithoutLooking_68 (by decide) (fun h_68 => ?_) (fun h_68 => ?_)
          · refine j_aload_n C dX0_runWithoutLooking_74 rfl rfl ?_
            refine j_iload C dX0_runWithoutLooking_75 rfl ?_
            refine g_cvI C vc_X0_76 (c_X0_makeSquare l G rg _ _ o n (ordn n t) E ho hn o1 hR1 (by omega) hE1.1 h_57) ⟨Nat.le_of_ble_eq_true rfl, Nat.le_of_ble_eq_true rfl⟩ (ho1) rfl rfl (Nat.le_of_ble_eq_true rfl) ⟨Nat.zero_le _, Nat.zero_le _⟩ dX0_runWithoutLooking_77 (fun r_77 I_77 L_77 p_77 => ?_)
            obtain ⟨hF78, hG78, ⟨rfl, hrw, hRm⟩ | ⟨rfl, hrw⟩⟩ := p_77
            · refine j_if_eq (tgt := 92) C dX0_runWithoutLooking_80 (by decide) (fun h_80 => ?_) (fun h_80 => ?_)
              · exact absurd h_80 (by decide)
              · refine j_aload_n C dX0_runWithoutLooking_83 rfl rfl ?_
                refine j_iload C dX0_runWithoutLooking_84 rfl ?_
                refine g_cvI C vc_X0_80 (c_X0_lessen l G rg _ _ o n (ordn n t) (midE E (ordn n t)) ho hn o1 hRm (Nat.succ_le_succ (Nat.zero_le _)) (va_up_self _ _ _)) ⟨Nat.le_of_ble_eq_true rfl, Nat.le_of_ble_eq_true rfl⟩ (ho1) rfl rfl (Nat.le_of_ble_eq_true rfl) ⟨Nat.zero_le _, Nat.zero_le _⟩ dX0_runWithoutLooking_86 (fun r_86 I_86 L_86 p_86 => ?_)
                obtain ⟨rfl, hG87, ⟨rfl, hls, hRl⟩ | ⟨rfl, hls⟩⟩ := p_86
                · refine j_if_ne (tgt := 95) C dX0_runWithoutLooking_89 (by decide) (fun h_89 => ?_) (fun h_89 => ?_)
                  · first | refine n_iinc (n := 1) C dX0_runWithoutLooking_95 rfl (by decide) ?_ | refine j_iinc C dX0_runWithoutLooking_95 rfl rfl (by decide) ?_
                    refine j_goto (tgt := 19) C dX0_runWithoutLooking_98 (by decide) ?_
                    refine j_rm 5 ?_
                    refine j_rm 6 ?_
                    first
                    | exact ih_lp (t + 1) ab _ _ (lsE n (midE E (ordn n t)) (ordn n t)) (by omega) (by omega) (hFI.trans hF78) ((hFL.trans hG78).trans (hG87.mono (by omega) (by omega))) hRl (EI_s hE1 o1 hlt (pvO_some hrw hls)) (fun q q1 q2 => by show va_up (eL E) (ordn n t) false (ordn n q) = true; rw [va_up_ne _ _ (fun z => by have := ordn_inj q2 (show t ≤ n by omega) z; omega)]; exact hLt q (by omega) q2) (by rw [← he, show n + 1 - t = (n - t) + 1 by omega, plainF, if_neg h_57, pvO_some hrw hls, if_neg (by rw [Int32.not_lt]; exact h_68), show n + 1 - (t + 1) = n - t by omega])
                    | exact ih_lp (t + 1) (ab + 1) _ _ (lsE n (midE E (ordn n t)) (ordn n t)) (by omega) (by omega) (hFI.trans hF78) ((hFL.trans hG78).trans (hG87.mono (by omega) (by omega))) hRl (EI_s hE1 o1 hlt (pvO_some hrw hls)) (fun q q1 q2 => by show va_up (eL E) (ordn n t) false (ordn n q) = true; rw [va_up_ne _ _ (fun z => by have := ordn_inj q2 (show t ≤ n by omega) z; omega)]; exact hLt q (by omega) q2) (by rw [← he, show n + 1 - t = (n - t) + 1 by omega, plainF, if_neg h_57, pvO_some hrw hls, if_pos (by rw [← Int32.not_le]; exact h_68), show n + 1 - (t + 1) = n - t by omega])
                  · exact absurd h_89 (by decide)
                · refine j_if_ne (tgt := 95) C dX0_runWithoutLooking_89 (by decide) (fun h_89 => ?_) (fun h_89 => ?_)
                  · exact absurd rfl h_89
                  · refine j_bipush (v := (-30)) C dX0_runWithoutLooking_92 (by decide) ?_
                    exact j_iret C hr dX0_runWithoutLooking_94 (by first | exact ⟨hFI.trans hF78, (hFL.trans hG78).trans (hG87.mono (by omega) (by omega)), by rw [← he, show n + 1 - t = (n - t) + 1 by omega, plainF, if_neg h_57, pvO_none2 hls]⟩ | exact ⟨hFI.trans hF78, hFL.trans hG78, by rw [← he, show n + 1 - t = (n - t) + 1 by omega, plainF, if_neg h_57, pvO_none1 hrw]⟩)
            · refine j_if_eq (tgt := 92) C dX0_runWithoutLooking_80 (by decide) (fun h_80 => ?_) (fun h_80 => ?_)
              · refine j_bipush (v := (-30)) C dX0_runWithoutLooking_92 (by decide) ?_
                exact j_iret C hr dX0_runWithoutLooking_94 (by first | exact ⟨hFI.trans hF78, (hFL.trans hG78).trans (hG87.mono (by omega) (by omega)), by rw [← he, show n + 1 - t = (n - t) + 1 by omega, plainF, if_neg h_57, pvO_none2 hls]⟩ | exact ⟨hFI.trans hF78, hFL.trans hG78, by rw [← he, show n + 1 - t = (n - t) + 1 by omega, plainF, if_neg h_57, pvO_none1 hrw]⟩)
              · exact absurd rfl h_80
          · first | refine n_iinc (n := 1) C dX0_runWithoutLooking_71 rfl (by decide) ?_ | refine j_iinc C dX0_runWithoutLooking_71 rfl rfl (by decide) ?_
            refine j_aload_n C dX0_runWithoutLooking_74 rfl rfl ?_
            refine j_iload C dX0_runWithoutLooking_75 rfl ?_
            refine g_cvI C vc_X0_76 (c_X0_makeSquare l G rg _ _ o n (ordn n t) E ho hn o1 hR1 (by omega) hE1.1 h_57) ⟨Nat.le_of_ble_eq_true rfl, Nat.le_of_ble_eq_true rfl⟩ (ho1) rfl rfl (Nat.le_of_ble_eq_true rfl) ⟨Nat.zero_le _, Nat.zero_le _⟩ dX0_runWithoutLooking_77 (fun r_77 I_77 L_77 p_77 => ?_)
            obtain ⟨hF78, hG78, ⟨rfl, hrw, hRm⟩ | ⟨rfl, hrw⟩⟩ := p_77
            · refine j_if_eq (tgt := 92) C dX0_runWithoutLooking_80 (by decide) (fun h_80 => ?_) (fun h_80 => ?_)
              · exact absurd h_80 (by decide)
              · refine j_aload_n C dX0_runWithoutLooking_83 rfl rfl ?_
                refine j_iload C dX0_runWithoutLooking_84 rfl ?_
                refine g_cvI C vc_X0_80 (c_X0_lessen l G rg _ _ o n (ordn n t) (midE E (ordn n t)) ho hn o1 hRm (Nat.succ_le_succ (Nat.zero_le _)) (va_up_self _ _ _)) ⟨Nat.le_of_ble_eq_true rfl, Nat.le_of_ble_eq_true rfl⟩ (ho1) rfl rfl (Nat.le_of_ble_eq_true rfl) ⟨Nat.zero_le _, Nat.zero_le _⟩ dX0_runWithoutLooking_86 (fun r_86 I_86 L_86 p_86 => ?_)
                obtain ⟨rfl, hG87, ⟨rfl, hls, hRl⟩ | ⟨rfl, hls⟩⟩ := p_86
                · refine j_if_ne (tgt := 95) C dX0_runWithoutLooking_89 (by decide) (fun h_89 => ?_) (fun h_89 => ?_)
                  · first | refine n_iinc (n := 1) C dX0_runWithoutLooking_95 rfl (by decide) ?_ | refine j_iinc C dX0_runWithoutLooking_95 rfl rfl (by decide) ?_
                    refine j_goto (tgt := 19) C dX0_runWithoutLooking_98 (by decide) ?_
                    refine j_rm 5 ?_
                    refine j_rm 6 ?_
                    first
                    | exact ih_lp (t + 1) ab _ _ (lsE n (midE E (ordn n t)) (ordn n t)) (by omega) (by omega) (hFI.trans hF78) ((hFL.trans hG78).trans (hG87.mono (by omega) (by omega))) hRl (EI_s hE1 o1 hlt (pvO_some hrw hls)) (fun q q1 q2 => by show va_up (eL E) (ordn n t) false (ordn n q) = true; rw [va_up_ne _ _ (fun z => by have := ordn_inj q2 (show t ≤ n by omega) z; omega)]; exact hLt q (by omega) q2) (by rw [← he, show n + 1 - t = (n - t) + 1 by omega, plainF, if_neg h_57, pvO_some hrw hls, if_neg (by rw [Int32.not_lt]; exact h_68), show n + 1 - (t + 1) = n - t by omega])
                    | exact ih_lp (t + 1) (ab + 1) _ _ (lsE n (midE E (ordn n t)) (ordn n t)) (by omega) (by omega) (hFI.trans hF78) ((hFL.trans hG78).trans (hG87.mono (by omega) (by omega))) hRl (EI_s hE1 o1 hlt (pvO_some hrw hls)) (fun q q1 q2 => by show va_up (eL E) (ordn n t) false (ordn n q) = true; rw [va_up_ne _ _ (fun z => by have := ordn_inj q2 (show t ≤ n by omega) z; omega)]; exact hLt q (by omega) q2) (by rw [← he, show n + 1 - t = (n - t) + 1 by omega, plainF, if_neg h_57, pvO_some hrw hls, if_pos (by rw [← Int32.not_le]; exact h_68), show n + 1 - (t + 1) = n - t by omega])
                  · exact absurd h_89 (by decide)
                · refine j_if_ne (tgt := 95) C dX0_runWithoutLooking_89 (by decide) (fun h_89 => ?_) (fun h_89 => ?_)
                  · exact absurd rfl h_89
                  · refine j_bipush (v := (-30)) C dX0_runWithoutLooking_92 (by decide) ?_
                    exact j_iret C hr dX0_runWithoutLooking_94 (by first | exact ⟨hFI.trans hF78, (hFL.trans hG78).trans (hG87.mono (by omega) (by omega)), by rw [← he, show n + 1 - t = (n - t) + 1 by omega, plainF, if_neg h_57, pvO_none2 hls]⟩ | exact ⟨hFI.trans hF78, hFL.trans hG78, by rw [← he, show n + 1 - t = (n - t) + 1 by omega, plainF, if_neg h_57, pvO_none1 hrw]⟩)
            · refine j_if_eq (tgt := 92) C dX0_runWithoutLooking_80 (by decide) (fun h_80 => ?_) (fun h_80 => ?_)
              · refine j_bipush (v := (-30)) C dX0_runWithoutLooking_92 (by decide) ?_
                exact j_iret C hr dX0_runWithoutLooking_94 (by first | exact ⟨hFI.trans hF78, (hFL.trans hG78).trans (hG87.mono (by omega) (by omega)), by rw [← he, show n + 1 - t = (n - t) + 1 by omega, plainF, if_neg h_57, pvO_none2 hls]⟩ | exact ⟨hFI.trans hF78, hFL.trans hG78, by rw [← he, show n + 1 - t = (n - t) + 1 by omega, plainF, if_neg h_57, pvO_none1 hrw]⟩)
              · exact absurd rfl h_80
        · refine j_bipush (v := (-10)) C dX0_runWithoutLooking_60 (by decide) ?_
          refine j_iload C dX0_runWithoutLooking_62 rfl ?_
          first | refine n_isub C (by omega) dX0_runWithoutLooking_64 ?_ | refine j_isub C dX0_runWithoutLooking_64 ?_
          exact j_iret C hr dX0_runWithoutLooking_65 (⟨hFI, hFL, by rw [← he, show n + 1 - t = (n - t) + 1 by omega, plainF, if_pos h_57]⟩)
  refine j_aload_n C dX0_runWithoutLooking_0 rfl rfl ?_
  refine g_getR C (by assumption) fl_X0_12 (by rfl) dX0_runWithoutLooking_1 ?_
  refine j_aload_n C dX0_runWithoutLooking_4 rfl rfl ?_
  refine j_iload_n C dX0_runWithoutLooking_5 rfl rfl ?_
  refine g_cvV C vc_X0_83 (c_X3_take l G rg _ _ (o + 1) fo n ho2 hf hn) ⟨Nat.le_of_ble_eq_true rfl, Nat.le_of_ble_eq_true rfl⟩ (ho2.1) rfl rfl (Nat.le_of_ble_eq_true rfl) ⟨Nat.zero_le _, Nat.zero_le _⟩ dX0_runWithoutLooking_6 (fun I_6 L_6 p_6 => ?_)
  obtain ⟨rfl, hF5, hC5⟩ := p_6
  refine j_aload_n C dX0_runWithoutLooking_9 rfl rfl ?_
  refine j_iload_n C dX0_runWithoutLooking_10 rfl rfl ?_
  refine g_cvV C vc_X0_64 (c_X0_start l G rg _ _ o n ho hn) ⟨Nat.le_of_ble_eq_true rfl, Nat.le_of_ble_eq_true rfl⟩ (ho1) rfl rfl (Nat.le_of_ble_eq_true rfl) ⟨Nat.zero_le _, Nat.zero_le _⟩ dX0_runWithoutLooking_11 (fun I_11 L_11 p_11 => ?_)
  obtain ⟨hF10, rfl, hN10, hS10, hL10⟩ := p_11
  refine j_iconst (v := nI 0) C dX0_runWithoutLooking_14 (by decide) ?_
  refine j_istore_n C dX0_runWithoutLooking_15 rfl (by decide) ?_
  refine j_iconst (v := nI 0) C dX0_runWithoutLooking_16 (by decide) ?_
  refine j_istore C dX0_runWithoutLooking_17 (by decide) ?_
  exact lp (n + 2) 0 0 _ _ (E0 n Mx) (by omega) (by omega) hF10 (hF5.mono (by omega) (by omega)) (RelC_E0 (a := 0) (L0 := L) hn hN10 hS10 hL10 _ (fun i j hi hj => (hC5 i j hi hj (by omega)).trans (hMx i j hi hj))) (EI_0 n _) (fun q _ q2 => decide_eq_true (ordn_le n q)) rfl
