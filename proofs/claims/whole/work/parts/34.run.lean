/-! ===== the model: the elimination ===== -/
def ELQ (n : Nat) (M : Nat → Nat → Fr) (I : II) (L : LL) (r : Int32) (I1 : II) (L1 : LL) : Prop := FM I I1 L L1 ∧ ∃ (c kk : Nat) (jo : Option Nat) (E : ES) (w : Bool), elim n (n + 1) (E0 n M) = (c, kk, jo, E) ∧ r = nI c ∧ I1 0 7 = b2i w ∧ (w = true → c = 2) ∧ (w = false → c ≠ 2 ∧ I1 0 14 = nI (eS E) ∧ RelX n I1 L1 E ∧ MQm n L1 (eM E)) ∧ (c = 0 → (jo = none → I1 0 21 = nI kk) ∧ ∀ j, jo = some j → I1 0 21 = -1 ∧ I1 0 22 = nI kk ∧ I1 0 23 = nI j)
theorem RelX_0 {n : Nat} {I : II} {L : LL} {M : Nat → Nat → Fr} (h : ∀ j, j ≤ n → I 7 j = b2i true) : RelX n I L (E0 n M) := ⟨fun j hj => by rw [h j hj]; show b2i true = b2i (decide (j ≤ n)); rw [decide_eq_true hj], fun s hs => absurd hs (Nat.not_lt_zero s)⟩
theorem RelX.i0 {n : Nat} {I : II} {L : LL} {E : ES} {k : Nat} {v : Int32} (h : RelX n I L E) : RelX n (up2 I 0 k v) L E := h.cong (up2_ne _ (by decide)) (up2_ne _ (by decide)) (up2_ne _ (by decide)) (fun _ _ _ => rfl)
theorem FM.pr {I I1 I2 : II} {L L1 : LL} (h : FM I I1 L L1) (h2 : FPr I1 I2) : FM I I2 L L1 := ⟨fun q a b c d => (h2.1 q a).trans (h.1 q a b c d), fun k a b c d e => (h2.2 k d e).trans (h.2.1 k a b c d e), h.2.2⟩
theorem ngO_s {x : Option Nat} {k : Nat} (hx : x = some k) : ngO x = nI k := by rw [hx]; rfl
theorem ngO_n {x : Option Nat} (hx : x = none) : ngO x = -1 := by rw [hx]; rfl
theorem ngO_lt {x : Option Nat} (hx : ∀ k, x = some k → k < 2 ^ 20) : (ngO x < 0 → x = none) ∧ (¬ ngO x < 0 → ∃ k, x = some k) := by
  cases x with
  | none => exact ⟨fun _ => rfl, fun q => absurd (show ngO none < 0 by decide) q⟩
  | some k => exact ⟨fun q => absurd q (dI_lt (hx k rfl)), fun _ => ⟨k, rfl⟩⟩
set_option maxHeartbeats 4000000 in
set_option maxRecDepth 20000 in
theorem c_X7_eliminate (l : Launch) (G : GT) (rg : RgT) (I : II) (L : LL) (n : Nat) (M : Nat → Nat → Fr) (hms : isMS rg) (hn : I 0 0 = nI n) (hn4 : n < 5) (h8 : I 0 8 = b2i false) (hlf : ∀ j, j ≤ n → I 7 j = b2i true) (hQ0 : MQm n L M) (hWM : ∀ i j, i ≤ n → j ≤ n → WF (M i j)) : CtI l yX7_eliminate cX7_eliminate 2 (some FieldType.int) 5 G rg I L [.ref (gB G + 0)] (ELQ n M I L) := by
  refine ctI_of [some (.ref (gB G + 0)), none] rfl (Nat.le_of_ble_eq_true rfl) (by decide) ?_
  intro p e s m args below meth c C hr
  obtain ⟨o0, a1, a2, a3, a4, a5, a6, a7, a8, a9, a10, a11, a12, a13, a14, a15, a16, a17, a18, a19, a20, a21, a22, a23, a24, a25, a26⟩ := id hms
  have lp : ∀ (fuel : Nat) (E : ES) (I1 : II) (L1 : LL), cntL (eL E) (n + 1) < fuel → elim n fuel E = elim n (n + 1) (E0 n M) → FM I I1 L L1 → I1 0 7 = b2i false → I1 0 14 = nI (eS E) → RelX n I1 L1 E → MQm n L1 (eM E) → EW n E → EI n E → J p l e (rmD 5) s m args below meth c (MQ below (QI G rg (ELQ n M I L)) args s 0 0 (rg_A G rg)) 2 G rg 0 0 I1 L1 9 [some (.ref (gB G + 0)), none] [] := by
    intro fuel
    induction fuel with
    | zero => intro E I1 L1 hc hel hF h7 h14 hX hQ hEW hEI; exfalso; omega
    | succ fuel ih_lp =>
      intro E I1 L1 hc hel hF h7 h14 hX hQ hEW hEI
      refine j_aload_n C dX7_eliminate_9 rfl rfl ?_
      refine j_aload_n C dX7_eliminate_10 rfl rfl ?_
      refine j_iconst (v := b2i true) C dX7_eliminate_11 (by decide) ?_
      refine g_cvI C vc_X7_198 (c_X7_firstDiagonal l G rg _ _ n true E hms ((hF.2.1 0 (by decide) (by decide) (by decide) (by decide) (by decide)).trans hn) hn4 hX hQ) ⟨Nat.le_of_ble_eq_true rfl, Nat.le_of_ble_eq_true rfl⟩ (o0) rfl rfl (Nat.le_of_ble_eq_true rfl) ⟨Nat.zero_le _, Nat.zero_le _⟩ dX7_eliminate_12 (fun r_12 I_12 L_12 p_12 => ?_)
      obtain ⟨rfl, rfl, rfl⟩ := p_12
      have hb1 : ∀ k, ffo (isSg (-1) E) n (n + 1) = some k → k < 2 ^ 20 := fun k q => by have := (ffo_some q).1; omega
      refine g_putI C (o0) fw_X7_202 (by rfl) rfl (fits_int _) dX7_eliminate_15 ?_
      refine j_aload_n C dX7_eliminate_18 rfl rfl ?_
      refine g_getI C (o0) fl_X7_202 (by rfl) dX7_eliminate_19 ?_
      refine t_i (y := ngO (ffo (isSg (-1) E) n (n + 1))) (by rw [up2_at]; simp; rfl) ?_
      refine j_if_lt (tgt := 27) C dX7_eliminate_22 (by decide) (fun h_22 => ?_) (fun h_22 => ?_)
      · have g1 := (ngO_lt hb1).1 h_22
        refine j_aload_n C dX7_eliminate_27 rfl rfl ?_
        refine j_iconst (v := b2i false) C dX7_eliminate_28 (by decide) ?_
        refine g_cvI C vc_X7_198 (c_X7_firstDiagonal l G rg _ _ n false E hms (by rw [up2_at]; simp; exact ((hF.2.1 0 (by decide) (by decide) (by decide) (by decide) (by decide)).trans hn)) hn4 hX.i0 hQ) ⟨Nat.le_of_ble_eq_true rfl, Nat.le_of_ble_eq_true rfl⟩ (o0) rfl rfl (Nat.le_of_ble_eq_true rfl) ⟨Nat.zero_le _, Nat.zero_le _⟩ dX7_eliminate_29 (fun r_29 I_29 L_29 p_29 => ?_)
        obtain ⟨rfl, rfl, rfl⟩ := p_29
        have hb2 : ∀ k, ffo (isSg 1 E) n (n + 1) = some k → k < 2 ^ 20 := fun k q => by have := (ffo_some q).1; omega
        refine j_istore_n C dX7_eliminate_32 rfl (by decide) ?_
        refine j_iload_n C dX7_eliminate_33 rfl rfl ?_
        refine j_if_ge (tgt := 50) C dX7_eliminate_34 (by decide) (fun h_34 => ?_) (fun h_34 => ?_)
        · obtain ⟨k, g2⟩ := (ngO_lt hb2).2 (Int32.not_lt.mpr h_34)
          have hkn := (ffo_some g2).1
          have hkp := (ffo_some g2).2
          have hkl : eL E k = true := by unfold isSg at hkp; exact (Bool.and_eq_true_iff.mp hkp).1
          have hk1 : lg_cmp (eM E k k).1 0 = 1 := by unfold isSg at hkp; exact of_decide_eq_true (Bool.and_eq_true_iff.mp hkp).2
          have hcn := cntL_up (eL E) hkl (show k < n + 1 by omega)
          refine j_aload_n C dX7_eliminate_50 rfl rfl ?_
          refine j_iload_n C dX7_eliminate_51 rfl rfl ?_
          refine t_i (ngO_s g2) ?_
          refine g_cvV C vc_X7_208 (c_X7_divide l G rg _ _ n k E hms (by rw [up2_at]; simp; exact ((hF.2.1 0 (by decide) (by decide) (by decide) (by decide) (by decide)).trans hn)) hn4 (by rw [up2_at]; simp; exact h7) (by rw [up2_at]; simp; exact ((hF.2.1 8 (by decide) (by decide) (by decide) (by decide) (by decide)).trans h8)) (by rw [up2_at]; simp; exact h14) (by have := hEI.2; omega) hX.i0 hQ hkn hEW.1 (fun q => by rw [q] at hk1; exact absurd hk1 (by decide)) hEI.1) ⟨Nat.le_of_ble_eq_true rfl, Nat.le_of_ble_eq_true rfl⟩ (o0) rfl rfl (Nat.le_of_ble_eq_true rfl) ⟨Nat.zero_le _, Nat.zero_le _⟩ dX7_eliminate_52 (fun I_52 L_52 p_52 => ?_)
          obtain ⟨hFd, hd14, w, hd7, hdf, hdt⟩ := p_52
          have hF2 := (hF.u0 (k := 21) (v := ngO (ffo (isSg (-1) E) n (n + 1))) (by omega)).tr hFd
          refine j_aload_n C dX7_eliminate_55 rfl rfl ?_
          refine g_cvI C vc_X7_154 (c_X7_isWrong l G rg _ _ w hms hd7 ((hF2.2.1 8 (by decide) (by decide) (by decide) (by decide) (by decide)).trans h8)) ⟨Nat.le_of_ble_eq_true rfl, Nat.le_of_ble_eq_true rfl⟩ (o0) rfl rfl (Nat.le_of_ble_eq_true rfl) ⟨Nat.zero_le _, Nat.zero_le _⟩ dX7_eliminate_56 (fun r_56 I_56 L_56 p_56 => ?_)
          obtain ⟨rfl, rfl, rfl⟩ := p_56
          first | refine n_if_eq (tgt := 64) C dX7_eliminate_59 (by decide) (fun h_59 => ?_) (fun h_59 => ?_) | refine j_if_eq (tgt := 64) C dX7_eliminate_59 (by decide) (fun h_59 => ?_) (fun h_59 => ?_)
          · refine j_goto (tgt := 9) C dX7_eliminate_64 (by decide) ?_
            obtain ⟨E1, hpv, hX1, hQ1⟩ := hdf h_59
            refine j_rm 1 ?_
            subst h_59
            exact ih_lp E1 _ _ (by rw [(pvO_L hpv).1]; omega) (by rw [← hel]; exact (elim_go g1 g2 hpv).symm) hF2 hd7 (by rw [hd14, (pvO_L hpv).2]) hX1 hQ1 (EW_s hEW hEI hkn hpv) (EI_s hEI hkn hkl hpv)
          · refine j_iconst (v := nI 2) C dX7_eliminate_62 (by decide) ?_
            exact j_iret C hr dX7_eliminate_63 ⟨hF2, 2, 0, none, E, w, hel ▸ elim_long g1 g2 (hdt h_59), rfl, hd7, (fun _ => rfl), (fun q => by rw [h_59] at q; cases q), fun q => absurd q (by decide)⟩
        · have g2 := (ngO_lt hb2).1 (Int32.not_le.mp h_34)
          refine j_aload_n C dX7_eliminate_37 rfl rfl ?_
          refine g_cvI C vc_X7_205 (c_X7_findPair l G rg _ _ n E hms (by rw [up2_at]; simp; exact ((hF.2.1 0 (by decide) (by decide) (by decide) (by decide) (by decide)).trans hn)) hn4 hX.i0 hQ) ⟨Nat.le_of_ble_eq_true rfl, Nat.le_of_ble_eq_true rfl⟩ (o0) rfl rfl (Nat.le_of_ble_eq_true rfl) ⟨Nat.zero_le _, Nat.zero_le _⟩ dX7_eliminate_38 (fun r_38 I_38 L_38 p_38 => ?_)
          obtain ⟨rfl, hPr, ⟨rfl, i, j, hij, hi, e22, e23⟩ | ⟨rfl, hno⟩⟩ := p_38
          · refine j_if_eq (tgt := 48) C dX7_eliminate_41 (by decide) (fun h_41 => ?_) (fun h_41 => ?_)
            · exact absurd h_41 (by decide)
            · refine j_iconst (v := nI 0) C dX7_eliminate_44 (by decide) ?_
              refine j_goto (tgt := 49) C dX7_eliminate_45 (by decide) ?_
              exact j_iret C hr dX7_eliminate_49 ⟨((hF.u0 (k := 21) (by omega)).pr hPr), 0, i, some j, E, false, hel ▸ elim_pair g1 g2 hij, rfl, (hPr.2 7 (by decide) (by decide)).trans (by rw [up2_at]; simp; exact h7), (fun q => by cases q), fun _ => ⟨by decide, (hPr.2 14 (by decide) (by decide)).trans (by rw [up2_at]; simp; exact h14), (hX.i0.cong (hPr.1 7 (by decide)) (hPr.1 8 (by decide)) (hPr.1 13 (by decide)) (fun _ _ _ => rfl)), hQ⟩, fun _ => ⟨(fun q => by cases q), fun j2 q => by cases q; exact ⟨(hPr.2 21 (by decide) (by decide)).trans (by rw [up2_at]; simp; exact ngO_n g1), e22, e23⟩⟩⟩
          · refine j_if_eq (tgt := 48) C dX7_eliminate_41 (by decide) (fun h_41 => ?_) (fun h_41 => ?_)
            · refine j_iconst (v := nI 1) C dX7_eliminate_48 (by decide) ?_
              exact j_iret C hr dX7_eliminate_49 ⟨((hF.u0 (k := 21) (by omega)).pr hPr), 1, 0, none, E, false, hel ▸ elim_done g1 g2 hno, rfl, (hPr.2 7 (by decide) (by decide)).trans (by rw [up2_at]; simp; exact h7), (fun q => by cases q), fun _ => ⟨by decide, (hPr.2 14 (by decide) (by decide)).trans (by rw [up2_at]; simp; exact h14), (hX.i0.cong (hPr.1 7 (by decide)) (hPr.1 8 (by decide)) (hPr.1 13 (by decide)) (fun _ _ _ => rfl)), hQ⟩, fun q => absurd q (by decide)⟩
            · exact absurd rfl h_41
      · refine j_iconst (v := nI 0) C dX7_eliminate_25 (by decide) ?_
        obtain ⟨k, hk⟩ := (ngO_lt hb1).2 h_22
        refine j_iret C hr dX7_eliminate_26 ⟨hF.u0 (by omega), 0, k, none, E, false, hel ▸ elim_neg hk, rfl, ?_, (fun q => by cases q), fun _ => ⟨by decide, ?_, hX.i0, hQ⟩, fun _ => ⟨fun _ => ?_, (fun j q => by cases q)⟩⟩
        · rw [up2_at]; simp; exact h7
        · rw [up2_at]; simp; exact h14
        · rw [up2_at]; simp; exact ngO_s hk
  refine j_aload_n C dX7_eliminate_0 rfl rfl ?_
  refine j_iconst (v := nI 0) C dX7_eliminate_1 (by decide) ?_
  refine g_putI C (o0) fw_X7_109 (by rfl) rfl (fits_int _) dX7_eliminate_2 ?_
  refine j_aload_n C dX7_eliminate_5 rfl rfl ?_
  refine g_cvV C vc_X7_195 (c_X7_begin l G rg _ _ hms) ⟨Nat.le_of_ble_eq_true rfl, Nat.le_of_ble_eq_true rfl⟩ (o0) rfl rfl (Nat.le_of_ble_eq_true rfl) ⟨Nat.zero_le _, Nat.zero_le _⟩ dX7_eliminate_6 (fun I_6 L_6 p_6 => ?_)
  obtain ⟨rfl, rfl⟩ := p_6
  refine t_IL (I1 := setW (up2 I 0 14 (nI 0)) false) (up2_same _ (by rw [setW_k _ _ (by decide), up2_at]; simp; exact h8)) rfl ?_
  refine lp (n + 2) (E0 n M) _ L (Nat.lt_succ_of_le (cntL_le _ _)) (elim_more (cntL_le _ _)) ((FM.rf.u0 (by omega)).uW false) (setW_7 _ _) (by rw [setW_k _ _ (by decide), up2_at]; simp; rfl) ?_ hQ0 (EW_0 hWM) (EI_0 n M)
  exact RelX_0 (fun j hj => by rw [setW_q _ _ (by decide), up2_ne _ (by decide)]; exact hlf j hj)
