/-! ===== multipliers ===== -/
noncomputable def mtO (n : Nat) (g c : Nat → Int32) (p q : Nat) : Option (Nat → Nat → Fr) := cif (∀ i j, i ≤ n → j ≤ n → tlO g c (lN p, lN q) i j ≠ none) (some (fun i j => (tlO g c (lN p, lN q) i j).getD (0, 1))) none
noncomputable def dnO (n : Nat) (M : Nat → Nat → Fr) : Option (ES × (Nat → Nat → Fr)) := if (elim n (n + 1) (E0 n M)).1 = 1 then some ((elim n (n + 1) (E0 n M)).2.2.2, M) else none
noncomputable def doneO (n : Nat) (g c : Nat → Int32) (p q : Nat) : Option (ES × (Nat → Nat → Fr)) := (mtO n g c p q).bind (dnO n)
abbrev MR : Type := Nat × Option (Nat × Nat × ES × (Nat → Nat → Fr))
noncomputable def mfQ (n : Nat) (g c : Nat → Int32) (s : Nat) : Nat → Nat → MR
  | 0, t => (t, none)
  | k + 1, t => if Nat.gcd k (s - k) = 1 then (match doneO n g c k (s - k) with
    | some w => (t + 1, some (k, s - k, w))
    | none => mfQ n g c s k (t + 1)) else mfQ n g c s k t
noncomputable def mfS (n : Nat) (g c : Nat → Int32) (fin : Nat) : Nat → Nat → MR
  | 0, t => (t, none)
  | k + 1, t => match (mfQ n g c (fin - k) (fin - k) t).2 with
    | some w => ((mfQ n g c (fin - k) (fin - k) t).1, some w)
    | none => mfS n g c fin k (mfQ n g c (fin - k) (fin - k) t).1
theorem absN_lN {p : Nat} (h : p < 2 ^ 63) : absN (lN p) = p := by unfold absN; rw [pk_lT h]; rfl
theorem gcdN_lN {p q : Nat} (hp : p < 2 ^ 63) (hq : q < 2 ^ 63) : gcdN (lN p) (lN q) = Nat.gcd p q := by unfold gcdN; rw [absN_lN hp, absN_lN hq]
theorem WF_lN {p q : Nat} (hp : p < 2 ^ 31) (hq : q < 2 ^ 31) (h0 : 0 < q) (h : Nat.gcd p q = 1) : WF (lN p, lN q) := ⟨by show lN p ≠ LEA; rw [ne_LEA, pk_lT (by omega)]; omega, by show 0 < (lN q).toInt; rw [pk_lT (by omega)]; omega, by show gcdN (lN p) (lN q) = 1; rw [gcdN_lN (by omega) (by omega)]; exact h⟩
theorem put_WF {x : Fr} (h : WF x) : fPut (decO x.1) (decO x.2) = some x := by rw [fPut_4 h.1 h.ne2 h.n0]; exact congrArg some (red_id h)
theorem mfQ_no {n : Nat} {g c : Nat → Int32} {s q t : Nat} (hq : q ≤ s) (h : ¬ Nat.gcd (s - q) q = 1) : mfQ n g c s (s + 1 - q) t = mfQ n g c s (s + 1 - (q + 1)) t := by
  rw [show s + 1 - q = (s - q) + 1 by omega, mfQ, show s - (s - q) = q by omega, if_neg h, show s + 1 - (q + 1) = s - q by omega]
theorem mfQ_nx {n : Nat} {g c : Nat → Int32} {s q t : Nat} (hq : q ≤ s) (h : Nat.gcd (s - q) q = 1) (h2 : doneO n g c (s - q) q = none) : mfQ n g c s (s + 1 - q) t = mfQ n g c s (s + 1 - (q + 1)) (t + 1) := by
  rw [show s + 1 - q = (s - q) + 1 by omega, mfQ, show s - (s - q) = q by omega, if_pos h, h2, show s + 1 - (q + 1) = s - q by omega]
theorem mfQ_hit {n : Nat} {g c : Nat → Int32} {s q t : Nat} {w : ES × (Nat → Nat → Fr)} (hq : q ≤ s) (h : Nat.gcd (s - q) q = 1) (h2 : doneO n g c (s - q) q = some w) : mfQ n g c s (s + 1 - q) t = (t + 1, some (s - q, q, w)) := by
  rw [show s + 1 - q = (s - q) + 1 by omega, mfQ, show s - (s - q) = q by omega, if_pos h, h2]
theorem mfS_nx {n : Nat} {g c : Nat → Int32} {fin s t t1 : Nat} (hs : s ≤ fin) (h : mfQ n g c s s t = (t1, none)) : mfS n g c fin (fin + 1 - s) t = mfS n g c fin (fin + 1 - (s + 1)) t1 := by
  rw [show fin + 1 - s = (fin - s) + 1 by omega, mfS, show fin - (fin - s) = s by omega, h, show fin + 1 - (s + 1) = fin - s by omega]
theorem mfS_hit {n : Nat} {g c : Nat → Int32} {fin s t t1 : Nat} {w : Nat × Nat × ES × (Nat → Nat → Fr)} (hs : s ≤ fin) (h : mfQ n g c s s t = (t1, some w)) : mfS n g c fin (fin + 1 - s) t = (t1, some w) := by
  rw [show fin + 1 - s = (fin - s) + 1 by omega, mfS, show fin - (fin - s) = s by omega, h]
theorem mtO_t {n : Nat} {g c : Nat → Int32} {p q : Nat} (h : ∀ i j, i ≤ n → j ≤ n → tlO g c (lN p, lN q) i j ≠ none) : mtO n g c p q = some (fun i j => (tlO g c (lN p, lN q) i j).getD (0, 1)) := cif_t h
theorem doneO_1 {n : Nat} {g c : Nat → Int32} {p q i j : Nat} (hi : i ≤ n) (hj : j ≤ n) (h : tlO g c (lN p, lN q) i j = none) : doneO n g c p q = none := by
  unfold doneO; rw [show mtO n g c p q = none from cif_f (fun z => z i j hi hj h)]; rfl
theorem doneO_2 {n : Nat} {g c : Nat → Int32} {p q cq k : Nat} {jo : Option Nat} {E : ES} {M : Nat → Nat → Fr} (h : mtO n g c p q = some M) (he : elim n (n + 1) (E0 n M) = (cq, k, jo, E)) (hc : cq ≠ 1) : doneO n g c p q = none := by
  unfold doneO; rw [h]; show dnO n M = none; unfold dnO; rw [he]; exact if_neg hc
theorem doneO_3 {n : Nat} {g c : Nat → Int32} {p q k : Nat} {jo : Option Nat} {E : ES} {M : Nat → Nat → Fr} (h : mtO n g c p q = some M) (he : elim n (n + 1) (E0 n M) = (1, k, jo, E)) : doneO n g c p q = some (E, M) := by
  unfold doneO; rw [h]; show dnO n M = _; unfold dnO; rw [he]; exact if_pos rfl
theorem gcd_s1 {p q : Nat} (hp : p < 2 ^ 31) (hq : q < 2 ^ 31) : lN (gcdN (lN p) (lN q)) = 1 ↔ Nat.gcd p q = 1 := by
  rw [gcdN_lN (by omega) (by omega)]
  have hg : Nat.gcd p q < 2 ^ 31 := by
    by_cases h : q = 0
    · rw [h, Nat.gcd_zero_right]; exact hp
    · exact Nat.lt_of_le_of_lt (Nat.gcd_le_right _ (Nat.pos_of_ne_zero h)) hq
  exact pk_lEQ (by omega) (by decide)
/-- what has changed while multipliers were looked for -/
def MFf (I I1 : II) (L L1 : LL) : Prop := (∀ q, q ≠ 2 → ¬ (32 ≤ q ∧ q < 111) → I1 q = I q) ∧ ∀ q, ¬ (4 ≤ q ∧ q < 111) → q ≠ 199 → L1 q = L q

theorem lN_ne {p : Nat} (h : p < 2 ^ 31) : lN p ≠ LEA := by rw [ne_LEA, pk_lT (by omega)]; omega
theorem tlO_WF {g c : Nat → Int32} {mu : Fr} {i j : Nat} {z : Fr} (h : tlO g c mu i j = some z) : WF z := by
  unfold tlO at h
  cases hm : fMul mu (hv (c (ix i j)) i j) with
  | none => rw [hm] at h; cases h
  | some x => rw [hm] at h; exact fSub_WF h
set_option maxHeartbeats 4000000 in
set_option maxRecDepth 20000 in
theorem c_X6_multiplierFound (l : Launch) (G : GT) (rg : RgT) (I : II) (L : LL) (n g cn fin : Nat) (gv cv : Nat → Int32) (hss : isSS rg) (hg : g < 12) (hc : cn < 12) (hgv : ∀ q, q < 25 → I (203 + 2 * g) q = gv q) (hcv : ∀ q, q < 25 → I (203 + 2 * cn) q = cv q) (rN : I 0 10 = nI n) (hn : n < 5) (hfin : fin ≤ 20) (h26 : I 2 6 = nI 0) : CtI l yX6_multiplierFound cX6_multiplierFound 8 (some FieldType.boolean) 7 G rg I L [.ref (gB G + 0), .ref (gB G + (202 + 2 * g)), .ref (gB G + (202 + 2 * cn)), .int (nI fin)] (fun r I1 L1 => MFf I I1 L L1 ∧ I1 2 6 = nI (mfS n gv cv fin fin 0).1 ∧ (∀ k, k < 4 → I1 2 k = I 2 k) ∧ ((r = b2i true ∧ ∃ p q E M, (mfS n gv cv fin fin 0).2 = some (p, q, E, M) ∧ I1 2 4 = nI p ∧ I1 2 5 = nI q ∧ RelC n 32 I1 L1 E ∧ ∀ i j, i ≤ n → j ≤ n → fr L1 (6 + (i * 5 + j)) = M i j) ∨ (r = b2i false ∧ (mfS n gv cv fin fin 0).2 = none ∧ I1 2 4 = I 2 4 ∧ I1 2 5 = I 2 5))) := by
  refine ctI_of [some (.ref (gB G + 0)), some (.ref (gB G + (202 + 2 * g))), some (.ref (gB G + (202 + 2 * cn))), some (.int (nI fin)), none, none, none, none] rfl (Nat.le_of_ble_eq_true rfl) (by decide) ?_
  intro p e s m args below meth c C hr
  obtain ⟨so1, so2, so3, so4, so5, so6, so7, so8, so9, so10, so11, so12⟩ := id hss
  have lp : ∀ (fuel : Nat) (s0 t0 : Nat) (I1 : II) (L1 : LL), fin + 1 < fuel + s0 → s0 ≤ fin + 1 → 1 ≤ s0 → MFf I I1 L L1 → I1 2 6 = nI t0 → (∀ k, k < 6 → I1 2 k = I 2 k) → mfS n gv cv fin (fin + 1 - s0) t0 = mfS n gv cv fin fin 0 → J p l e (rmD 7) s m args below meth c (MQ below (QI G rg (fun r I1 L1 => MFf I I1 L L1 ∧ I1 2 6 = nI (mfS n gv cv fin fin 0).1 ∧ (∀ k, k < 4 → I1 2 k = I 2 k) ∧ ((r = b2i true ∧ ∃ p q E M, (mfS n gv cv fin fin 0).2 = some (p, q, E, M) ∧ I1 2 4 = nI p ∧ I1 2 5 = nI q ∧ RelC n 32 I1 L1 E ∧ ∀ i j, i ≤ n → j ≤ n → fr L1 (6 + (i * 5 + j)) = M i j) ∨ (r = b2i false ∧ (mfS n gv cv fin fin 0).2 = none ∧ I1 2 4 = I 2 4 ∧ I1 2 5 = I 2 5)))) args s 0 0 (rg_A G rg)) 8 G rg 0 0 I1 L1 3 [some (.ref (gB G + 0)), some (.ref (gB G + (202 + 2 * g))), some (.ref (gB G + (202 + 2 * cn))), some (.int (nI fin)), some (.int (nI s0)), none, none, none] [] := by
    intro fuel
    induction fuel with
    | zero => intro s0 t0 I1 L1 h1 h2 h3 hMF h6 h5 heS; exfalso; omega
    | succ fuel ih_lp =>
      intro s0 t0 I1 L1 h1 h2 h3 hMF h6 h5 heS
      refine j_iload C dX6_multiplierFound_3 rfl ?_
      refine j_iload_n C dX6_multiplierFound_5 rfl rfl ?_
      first | refine n_icmp_gt (tgt := 151) C (by omega) (by omega) dX6_multiplierFound_6 (by decide) (fun h_6 => ?_) (fun h_6 => ?_) | refine j_icmp_gt (tgt := 151) C dX6_multiplierFound_6 (by decide) (fun h_6 => ?_) (fun h_6 => ?_)
      · refine j_iconst (v := nI 0) C dX6_multiplierFound_151 (by decide) ?_
        exact j_zret C hr (by first | rfl | exact b2i_n _ rfl) dX6_multiplierFound_152 (⟨hMF, by rw [← heS, show fin + 1 - s0 = 0 by omega]; exact h6, fun z hz => h5 z (by omega), Or.inr ⟨rfl, by rw [← heS, show fin + 1 - s0 = 0 by omega]; rfl, h5 4 (by omega), h5 5 (by omega)⟩⟩)
      · refine j_iconst (v := nI 1) C dX6_multiplierFound_9 (by decide) ?_
        refine j_istore C dX6_multiplierFound_10 (by decide) ?_
        have lq : ∀ (fuel : Nat) (q t : Nat) (I1 : II) (L1 : LL), s0 + 1 < fuel + q → q ≤ s0 + 1 → 1 ≤ q → MFf I I1 L L1 → I1 2 6 = nI t → (∀ k, k < 6 → I1 2 k = I 2 k) → mfQ n gv cv s0 (s0 + 1 - q) t = mfQ n gv cv s0 s0 t0 → J p l e (rmD 7) s m args below meth c (MQ below (QI G rg (fun r I1 L1 => MFf I I1 L L1 ∧ I1 2 6 = nI (mfS n gv cv fin fin 0).1 ∧ (∀ k, k < 4 → I1 2 k = I 2 k) ∧ ((r = b2i true ∧ ∃ p q E M, (mfS n gv cv fin fin 0).2 = some (p, q, E, M) ∧ I1 2 4 = nI p ∧ I1 2 5 = nI q ∧ RelC n 32 I1 L1 E ∧ ∀ i j, i ≤ n → j ≤ n → fr L1 (6 + (i * 5 + j)) = M i j) ∨ (r = b2i false ∧ (mfS n gv cv fin fin 0).2 = none ∧ I1 2 4 = I 2 4 ∧ I1 2 5 = I 2 5)))) args s 0 0 (rg_A G rg)) 8 G rg 0 0 I1 L1 12 [some (.ref (gB G + 0)), some (.ref (gB G + (202 + 2 * g))), some (.ref (gB G + (202 + 2 * cn))), some (.int (nI fin)), some (.int (nI s0)), some (.int (nI q)), none, none] [] := by
          intro fuel
          induction fuel with
          | zero => intro q t I1 L1 q1 q2 q3 hMF h6 h5 heQ; exfalso; omega
          | succ fuel ih_lq =>
            intro q t I1 L1 q1 q2 q3 hMF h6 h5 heQ
            refine j_iload C dX6_multiplierFound_12 rfl ?_
            refine j_iload C dX6_multiplierFound_14 rfl ?_
            first | refine n_icmp_gt (tgt := 145) C (by omega) (by omega) dX6_multiplierFound_16 (by decide) (fun h_16 => ?_) (fun h_16 => ?_) | refine j_icmp_gt (tgt := 145) C dX6_multiplierFound_16 (by decide) (fun h_16 => ?_) (fun h_16 => ?_)
            · first | refine n_iinc (n := 1) C dX6_multiplierFound_145 rfl (by decide) ?_ | refine j_iinc C dX6_multiplierFound_145 rfl rfl (by decide) ?_
              refine j_goto (tgt := 3) C dX6_multiplierFound_148 (by decide) ?_
              refine j_rm 5 ?_
              refine j_rm 6 ?_
              refine j_rm 7 ?_
              exact ih_lp (s0 + 1) t I1 L1 (by omega) (by omega) (by omega) hMF h6 h5 (by rw [← heS]; exact (mfS_nx (by omega) (by rw [← heQ, show s0 + 1 - q = 0 by omega]; rfl)).symm)
            · refine j_iload C dX6_multiplierFound_19 rfl ?_
              refine j_iload C dX6_multiplierFound_21 rfl ?_
              first | refine n_isub C (by omega) dX6_multiplierFound_23 ?_ | refine j_isub C dX6_multiplierFound_23 ?_
              refine j_istore C dX6_multiplierFound_24 (by decide) ?_
              refine j_iload C dX6_multiplierFound_26 rfl ?_
              refine j_i2l C dX6_multiplierFound_28 ?_
              refine t_l (nI_l (by omega)) ?_
              refine j_iload C dX6_multiplierFound_29 rfl ?_
              refine j_i2l C dX6_multiplierFound_31 ?_
              refine t_l (nI_l (by omega)) ?_
              refine j_csL C sc_X6_219 (c_X2_commonDivisor l G rg _ _ _ _ (lN_ne (by omega)) (lN_ne (by omega))) ⟨Nat.le_of_ble_eq_true rfl, Nat.le_of_ble_eq_true rfl⟩ rfl rfl (Nat.le_of_ble_eq_true rfl) ⟨Nat.zero_le _, Nat.zero_le _⟩ dX6_multiplierFound_32 (fun r_32 I_32 L_32 p_32 => ?_)
              obtain ⟨rfl, rfl, rfl⟩ := p_32
              refine j_lconst (v := 1) C dX6_multiplierFound_35 (by decide) ?_
              refine j_lc_eq (tgt := 43) C dX6_multiplierFound_36 dX6_multiplierFound_37 (by decide) (fun h_37 => ?_) (fun h_37 => ?_)
              · refine j_aload_n C dX6_multiplierFound_43 rfl rfl ?_
                refine g_getR C (by assumption) fl_X6_15 (by rfl) dX6_multiplierFound_44 ?_
                refine j_bipush (v := nI 6) C dX6_multiplierFound_47 (by decide) ?_
                refine j_dup2 C dX6_multiplierFound_49 rfl rfl ?_
                refine g_iald C (so3) (by omega) (by decide) dX6_multiplierFound_50 ?_
                refine t_i h6 ?_
                refine j_iconst (v := nI 1) C dX6_multiplierFound_51 (by decide) ?_
                first | refine n_iadd C dX6_multiplierFound_52 ?_ | refine j_iadd C dX6_multiplierFound_52 ?_
                refine g_iast C (so3) (by omega) (by decide) dX6_multiplierFound_53 ?_
                have hgc : Nat.gcd (s0 - q) q = 1 := (gcd_s1 (by omega) (by omega)).mp h_37
                obtain ⟨I2, hI2⟩ : ∃ I2, I2 = up2 I1 2 6 (nI (t + 1)) := ⟨_, rfl⟩
                rw [← hI2]
                have k0 : ∀ z, z ≠ 2 → I2 z = I1 z := fun z hz => by rw [hI2, up2_ne _ hz]
                have k6 : I2 2 6 = nI (t + 1) := by rw [hI2, up2_at, if_pos rfl, if_pos rfl]
                have k5 : ∀ z, z < 6 → I2 2 z = I 2 z := fun z hz => by rw [hI2, up2_at, if_pos rfl, if_neg (by omega)]; exact h5 z hz
                refine j_aload_n C dX6_multiplierFound_54 rfl rfl ?_
                refine g_getR C (by assumption) fl_X6_50 (by rfl) dX6_multiplierFound_55 ?_
                refine j_iload C dX6_multiplierFound_58 rfl ?_
                refine j_i2l C dX6_multiplierFound_60 ?_
                refine t_l (nI_l (by omega)) ?_
                refine j_iload C dX6_multiplierFound_61 rfl ?_
                refine j_i2l C dX6_multiplierFound_63 ?_
                refine t_l (nI_l (by omega)) ?_
                refine g_cvI C vc_X6_184 (c_X2_put l G rg _ _ _ _ _ so9) ⟨Nat.le_of_ble_eq_true rfl, Nat.le_of_ble_eq_true rfl⟩ (so9) rfl rfl (Nat.le_of_ble_eq_true rfl) ⟨Nat.zero_le _, Nat.zero_le _⟩ dX6_multiplierFound_64 (fun r_64 I_64 L_64 p_64 => ?_)
                obtain ⟨rfl, rfl, rfl⟩ := Put_some p_64 (put_WF (WF_lN (p := s0 - q) (q := q) (by omega) (by omega) (by omega) hgc))
                · have fm1 := so12 g hg
                  have fm2 := so12 cn hc
                  have rN2 : I2 0 10 = nI n := by rw [k0 0 (by omega), hMF.1 0 (by omega) (by omega)]; exact rN
                  refine j_if_eq (tgt := 94) C dX6_multiplierFound_67 (by decide) (fun h_67 => ?_) (fun h_67 => ?_)
                  · exact absurd h_67 (by decide)
                  · refine j_aload_n C dX6_multiplierFound_70 rfl rfl ?_
                    refine g_getR C (by assumption) fl_X6_26 (by rfl) dX6_multiplierFound_71 ?_
                    refine j_aload_n C dX6_multiplierFound_74 rfl rfl ?_
                    refine j_aload_n C dX6_multiplierFound_75 rfl rfl ?_
                    refine j_aload_n C dX6_multiplierFound_76 rfl rfl ?_
                    refine g_getR C (by assumption) fl_X6_50 (by rfl) dX6_multiplierFound_77 ?_
                    refine j_aload_n C dX6_multiplierFound_80 rfl rfl ?_
                    refine g_getI C (by assumption) fl_X6_60 (by rfl) dX6_multiplierFound_81 ?_
                    refine t_i rN2 ?_
                    refine g_cvI C vc_X6_223 (c_X3_takeLess l G rg _ _ 4 (202 + 2 * g) (202 + 2 * cn) 199 n gv cv so5 fm1 fm2 (fun z hz => by rw [show 202 + 2 * g + 1 = 203 + 2 * g by omega, k0 _ (by omega), hMF.1 _ (by omega) (by omega)]; exact hgv z hz) (fun z hz => by rw [show 202 + 2 * cn + 1 = 203 + 2 * cn by omega, k0 _ (by omega), hMF.1 _ (by omega) (by omega)]; exact hcv z hz) so9 (by omega) hn) ⟨Nat.le_of_ble_eq_true rfl, Nat.le_of_ble_eq_true rfl⟩ (so5.1) rfl rfl (Nat.le_of_ble_eq_true rfl) ⟨Nat.zero_le _, Nat.zero_le _⟩ dX6_multiplierFound_84 (fun r_84 I_84 L_84 p_84 => ?_)
                    rw [fr_setF, if_pos rfl] at p_84
                    obtain ⟨rfl, hF84, ⟨rfl, hT84⟩ | ⟨rfl, zi, zj, hz1, hz2, hz3⟩⟩ := p_84
                    all_goals have hMF2 : MFf I I2 L L_84 := ⟨fun z z1 z2 => by rw [k0 z z1]; exact hMF.1 z z1 z2, fun z z1 z2 => by rw [hF84.at (by omega), setF_ne z2]; exact hMF.2 z z1 z2⟩
                    · have htl : ∀ i j, i ≤ n → j ≤ n → tlO gv cv (lN (s0 - q), lN q) i j = some (fr L_84 (4 + 2 + (i * 5 + j))) := fun i j hi hj => (hT84 i j hi hj).1 (by unfold prc; omega)
                      have hmt := mtO_t (n := n) (g := gv) (c := cv) (p := s0 - q) (q := q) (fun i j hi hj z => by rw [htl i j hi hj] at z; cases z)
                      refine j_if_eq (tgt := 94) C dX6_multiplierFound_87 (by decide) (fun h_87 => ?_) (fun h_87 => ?_)
                      · exact absurd h_87 (by decide)
                      · refine j_iconst (v := nI 1) C dX6_multiplierFound_90 (by decide) ?_
                        refine j_goto (tgt := 95) C dX6_multiplierFound_91 (by decide) ?_
                        refine j_istore C dX6_multiplierFound_95 (by decide) ?_
                        refine j_iload C dX6_multiplierFound_97 rfl ?_
                        refine j_if_eq (tgt := 139) C dX6_multiplierFound_99 (by decide) (fun h_99 => ?_) (fun h_99 => ?_)
                        · exact absurd h_99 (by decide)
                        · refine j_aload_n C dX6_multiplierFound_102 rfl rfl ?_
                          refine g_getR C (by assumption) fl_X6_33 (by rfl) dX6_multiplierFound_103 ?_
                          refine j_aload_n C dX6_multiplierFound_106 rfl rfl ?_
                          refine g_getR C (by assumption) fl_X6_26 (by rfl) dX6_multiplierFound_107 ?_
                          refine j_aload_n C dX6_multiplierFound_110 rfl rfl ?_
                          refine g_getI C (by assumption) fl_X6_60 (by rfl) dX6_multiplierFound_111 ?_
                          refine t_i rN2 ?_
                          refine g_cvI C vc_X6_120 (c_X0_run l G rg _ _ 32 4 n (fun i j => (tlO gv cv (lN (s0 - q), lN q) i j).getD (0, 1)) so6 so5 (by omega) hn (fun i j hi hj => by rw [htl i j hi hj]; rfl)) ⟨Nat.le_of_ble_eq_true rfl, Nat.le_of_ble_eq_true rfl⟩ (so6.1) rfl rfl (Nat.le_of_ble_eq_true rfl) ⟨Nat.zero_le _, Nat.zero_le _⟩ dX6_multiplierFound_114 (fun r_114 I_114 L_114 p_114 => ?_)
                          obtain ⟨f1, f2, cq, k9, jo, E, hel, rfl, hRel, h89⟩ := p_114
                          have hMF3 : MFf I I_114 L L_114 := ⟨fun z z1 z2 => by rw [f1.at (by omega)]; exact hMF2.1 z z1 z2, fun z z1 z2 => by rw [f2.at (by omega)]; exact hMF2.2 z z1 z2⟩
                          have j6 : I_114 2 6 = nI (t + 1) := by rw [f1.at (by omega)]; exact k6
                          have j5 : ∀ z, z < 6 → I_114 2 z = I 2 z := fun z hz => by rw [f1.at (by omega)]; exact k5 z hz
                          have hc2 : cq ≤ 2 := (elim_EW (EW_0 (fun i j hi hj => by show WF ((tlO gv cv (lN (s0 - q), lN q) i j).getD (0, 1)); rw [htl i j hi hj]; exact tlO_WF (htl i j hi hj))) (EI_0 n _) hel).2.2.2
                          refine j_iconst (v := nI 1) C dX6_multiplierFound_117 (by decide) ?_
                          first | refine n_icmp_ne (tgt := 139) C (by omega) (by omega) dX6_multiplierFound_118 (by decide) (fun h_118 => ?_) (fun h_118 => ?_) | refine j_icmp_ne (tgt := 139) C dX6_multiplierFound_118 (by decide) (fun h_118 => ?_) (fun h_118 => ?_)
                          · have hdn : doneO n gv cv (s0 - q) q = none := doneO_2 hmt hel h_118
                            first | refine n_iinc (n := 1) C dX6_multiplierFound_139 rfl (by decide) ?_ | refine j_iinc C dX6_multiplierFound_139 rfl rfl (by decide) ?_
                            refine j_goto (tgt := 12) C dX6_multiplierFound_142 (by decide) ?_
                            refine j_rm 6 ?_
                            refine j_rm 7 ?_
                            first
                            | exact ih_lq (q + 1) (t + 1) _ _ (by omega) (by omega) (by omega) hMF3 j6 j5 (by rw [← heQ]; exact (mfQ_nx (by omega) hgc hdn).symm)
                            | exact ih_lq (q + 1) t I1 L1 (by omega) (by omega) (by omega) hMF h6 h5 (by rw [← heQ]; exact (mfQ_no (by omega) (fun z => h_37 ((gcd_s1 (by omega) (by omega)).mpr z))).symm)
                          · refine j_aload_n C dX6_multiplierFound_121 rfl rfl ?_
                            refine g_getR C (by assumption) fl_X6_15 (by rfl) dX6_multiplierFound_122 ?_
                            refine j_iconst (v := nI 4) C dX6_multiplierFound_125 (by decide) ?_
                            refine j_iload C dX6_multiplierFound_126 rfl ?_
                            refine g_iast C (so3) (by omega) (by decide) dX6_multiplierFound_128 ?_
                            refine j_aload_n C dX6_multiplierFound_129 rfl rfl ?_
                            refine g_getR C (by assumption) fl_X6_15 (by rfl) dX6_multiplierFound_130 ?_
                            refine j_iconst (v := nI 5) C dX6_multiplierFound_133 (by decide) ?_
                            refine j_iload C dX6_multiplierFound_134 rfl ?_
                            refine g_iast C (so3) (by omega) (by decide) dX6_multiplierFound_136 ?_
                            refine j_iconst (v := nI 1) C dX6_multiplierFound_137 (by decide) ?_
                            subst h_118
                            have hR1 := hRel (by decide)
                            have hres : mfS n gv cv fin fin 0 = (t + 1, some (s0 - q, q, E, fun i j => (tlO gv cv (lN (s0 - q), lN q) i j).getD (0, 1))) := by rw [← heS]; exact mfS_hit (by omega) (by rw [← heQ]; exact mfQ_hit (by omega) hgc (doneO_3 hmt hel))
                            refine j_zret C hr (by rfl) dX6_multiplierFound_138 ⟨⟨fun z z1 z2 => ?_, hMF3.2⟩, ?_, fun z hz => ?_, Or.inl ⟨rfl, s0 - q, q, E, _, congrArg Prod.snd hres, ?_, ?_, ?_, fun i j hi hj => ?_⟩⟩
                            · rw [up2_ne _ z1, up2_ne _ z1]; exact hMF3.1 z z1 z2
                            · rw [hres, up2_at, if_pos rfl, if_neg (by decide), up2_at, if_pos rfl, if_neg (by decide)]; exact j6
                            · rw [up2_at, if_pos rfl, if_neg (by omega), up2_at, if_pos rfl, if_neg (by omega)]; exact j5 z (by omega)
                            · rw [up2_at, if_pos rfl, if_neg (by decide), up2_at, if_pos rfl, if_pos rfl]
                            · rw [up2_at, if_pos rfl, if_pos rfl]
                            · exact hR1.cong hn (by rw [up2_ne _ (by omega), up2_ne _ (by omega)]) (by rw [up2_ne _ (by omega), up2_ne _ (by omega)]) (fun _ _ => rfl) (by rw [up2_ne _ (by omega), up2_ne _ (by omega)]) (fun z _ => by rw [up2_ne _ (by omega), up2_ne _ (by omega)]) (fun _ _ _ => rfl)
                            · rw [htl i j hi hj]; exact f2.fr (by omega)
                    · have hdn : doneO n gv cv (s0 - q) q = none := doneO_1 (i := zi) (j := zj) (by omega) (by omega) hz3
                      have hMF3 := hMF2
                      have j6 := k6
                      have j5 := k5
                      refine j_if_eq (tgt := 94) C dX6_multiplierFound_87 (by decide) (fun h_87 => ?_) (fun h_87 => ?_)
                      · refine j_iconst (v := nI 0) C dX6_multiplierFound_94 (by decide) ?_
                        refine j_istore C dX6_multiplierFound_95 (by decide) ?_
                        refine j_iload C dX6_multiplierFound_97 rfl ?_
                        refine j_if_eq (tgt := 139) C dX6_multiplierFound_99 (by decide) (fun h_99 => ?_) (fun h_99 => ?_)
                        · first | refine n_iinc (n := 1) C dX6_multiplierFound_139 rfl (by decide) ?_ | refine j_iinc C dX6_multiplierFound_139 rfl rfl (by decide) ?_
                          refine j_goto (tgt := 12) C dX6_multiplierFound_142 (by decide) ?_
                          refine j_rm 6 ?_
                          refine j_rm 7 ?_
                          first
                          | exact ih_lq (q + 1) (t + 1) _ _ (by omega) (by omega) (by omega) hMF3 j6 j5 (by rw [← heQ]; exact (mfQ_nx (by omega) hgc hdn).symm)
                          | exact ih_lq (q + 1) t I1 L1 (by omega) (by omega) (by omega) hMF h6 h5 (by rw [← heQ]; exact (mfQ_no (by omega) (fun z => h_37 ((gcd_s1 (by omega) (by omega)).mpr z))).symm)
                        · exact absurd rfl h_99
                      · exact absurd rfl h_87
              · refine j_goto (tgt := 139) C dX6_multiplierFound_40 (by decide) ?_
                first | refine n_iinc (n := 1) C dX6_multiplierFound_139 rfl (by decide) ?_ | refine j_iinc C dX6_multiplierFound_139 rfl rfl (by decide) ?_
                refine j_goto (tgt := 12) C dX6_multiplierFound_142 (by decide) ?_
                refine j_rm 6 ?_
                refine j_rm 7 ?_
                first
                | exact ih_lq (q + 1) (t + 1) _ _ (by omega) (by omega) (by omega) hMF3 j6 j5 (by rw [← heQ]; exact (mfQ_nx (by omega) hgc hdn).symm)
                | exact ih_lq (q + 1) t I1 L1 (by omega) (by omega) (by omega) hMF h6 h5 (by rw [← heQ]; exact (mfQ_no (by omega) (fun z => h_37 ((gcd_s1 (by omega) (by omega)).mpr z))).symm)
        exact lq (s0 + 2) 1 t0 I1 L1 (by omega) (by omega) (by omega) hMF h6 h5 (by rw [show s0 + 1 - 1 = s0 by omega])
  refine j_iconst (v := nI 1) C dX6_multiplierFound_0 (by decide) ?_
  refine j_istore C dX6_multiplierFound_1 (by decide) ?_
  exact lp (fin + 2) 1 0 I L (by omega) (by omega) (by omega) ⟨fun _ _ _ => rfl, fun _ _ _ => rfl⟩ h26 (fun _ _ => rfl) (by rw [show fin + 1 - 1 = fin by omega])
