/-! ===== the model: its whole state, prove ===== -/
def RM (A : AS) (I : II) (L : LL) : Prop :=
  I 0 0 = nI (aN A) ∧ I 0 1 = nI (aF A) ∧ I 0 3 = nI (aP A) ∧ (∀ f k, f < 12 → k < 25 → I 1 (25 * f + k) = aV A f k) ∧ I 0 35 = (if aP A = 0 then -1 else aT A 0) ∧ I 0 14 = aT A 1 ∧ (aP A ≠ 0 → I 0 36 = aT A 2 ∧ I 0 37 = aT A 3 ∧ I 0 38 = aT A 4 ∧ I 0 39 = aT A 5 ∧ I 0 40 = aT A 6) ∧ I 0 32 = b2i (aX A).isSome ∧ I 0 8 = b2i false ∧ (∃ w, I 0 7 = b2i w) ∧
  (∀ X, aX A = some X → ∀ k, 1 ≤ k → k ≤ aN A → (L 21 k, L 22 k) = X k) ∧ (aT A 0 = 1 → RelX (aN A) I L (aE A) ∧ ∀ i j, i ≤ aN A → j ≤ aN A → (L 5 (5 * i + j), L 6 (5 * i + j)) = aM A i j)
theorem dI_i {m : Nat} (hm : m < 2 ^ 20) : (nI m - nI 1).toInt = (m : Int) - 1 := by
  cases m with
  | zero => decide
  | succ q => rw [nat_sub1, nI_toInt (by omega)]; omega
theorem in_F {x : Int32} {m : Nat} (hm : m < 2 ^ 20) : decide ((0 : Int64) ≤ x.toInt64 ∧ x.toInt64 ≤ (nI m - nI 1).toInt64) = okF x m := by
  unfold okF
  apply decide_eq_decide.mpr
  rw [Int64.le_iff_toInt_le, Int64.le_iff_toInt_le, Int32.toInt_toInt64, Int32.toInt_toInt64, i64_0, dI_i hm]
  omega
set_option maxHeartbeats 4000000 in
set_option maxRecDepth 20000 in
theorem c_X7_isForm (l : Launch) (G : GT) (rg : RgT) (I : II) (L : LL) (nf : Nat) (x : Int32) (hms : isMS rg) (hnf : I 0 1 = nI nf) (hn20 : nf < 2 ^ 20) : CtI l yX7_isForm cX7_isForm 2 (some FieldType.boolean) 2 G rg I L [.ref (gB G + 0), .int x] (fun r I1 L1 => r = b2i (okF x nf) ∧ I = I1 ∧ L = L1) := by
  refine ctI_of [some (.ref (gB G + 0)), some (.int x)] rfl (Nat.le_of_ble_eq_true rfl) (by decide) ?_
  intro p e s m args below meth c C hr
  obtain ⟨o0, a1, a2, a3, a4, a5, a6, a7, a8, a9, a10, a11, a12, a13, a14, a15, a16, a17, a18, a19, a20, a21, a22, a23, a24, a25, a26⟩ := id hms
  refine j_aload_n C dX7_isForm_0 rfl rfl ?_
  refine j_iload_n C dX7_isForm_1 rfl rfl ?_
  refine j_i2l C dX7_isForm_2 ?_
  refine j_lconst (v := 0) C dX7_isForm_3 (by decide) ?_
  refine j_aload_n C dX7_isForm_4 rfl rfl ?_
  refine g_getI C (o0) fl_X7_97 (by rfl) dX7_isForm_5 ?_
  refine t_i hnf ?_
  refine j_iconst (v := nI 1) C dX7_isForm_8 (by decide) ?_
  refine j_isub C dX7_isForm_9 ?_
  refine j_i2l C dX7_isForm_10 ?_
  refine g_cvI C vc_X7_100 (c_X7_isIn l G rg _ _ _ _ _) ⟨Nat.le_of_ble_eq_true rfl, Nat.le_of_ble_eq_true rfl⟩ (o0) rfl rfl (Nat.le_of_ble_eq_true rfl) ⟨Nat.zero_le _, Nat.zero_le _⟩ dX7_isForm_11 (fun r_11 I_11 L_11 p_11 => ?_)
  obtain ⟨rfl, rfl, rfl⟩ := p_11
  exact j_zret C hr (b2i_n _ rfl) dX7_isForm_14 (⟨congrArg b2i (in_F hn20), rfl, rfl⟩)

theorem km_s {L L1 : LL} {i : Nat} (h : ∀ j, j < i → (L1 5 j, L1 6 j) = (L 3 j, L 4 j)) : ∀ j, j < i + 1 → (up2 (up2 L1 5 i (L 3 i)) 6 i (L 4 i) 5 j, up2 (up2 L1 5 i (L 3 i)) 6 i (L 4 i) 6 j) = (L 3 j, L 4 j) := fun j hj => by
  rw [up2_ne _ (show (5 : Nat) ≠ 6 by decide), up2_at, up2_at, if_pos rfl, if_pos rfl, up2_ne _ (show (6 : Nat) ≠ 5 by decide)]
  by_cases e : j = i
  · rw [if_pos e, if_pos e, e]
  · rw [if_neg e, if_neg e]; exact h j (by omega)
set_option maxHeartbeats 4000000 in
set_option maxRecDepth 20000 in
theorem c_X7_keepMatrix (l : Launch) (G : GT) (rg : RgT) (I : II) (L : LL) (hms : isMS rg) : CtV l yX7_keepMatrix cX7_keepMatrix 2 none 1 G rg I L [.ref (gB G + 0)] (fun I1 L1 => I = I1 ∧ (∀ q, q ≠ 5 → q ≠ 6 → L1 q = L q) ∧ ∀ k, k < 25 → (L1 5 k, L1 6 k) = (L 3 k, L 4 k)) := by
  refine ctV_of [some (.ref (gB G + 0)), none] rfl (Nat.le_of_ble_eq_true rfl) (by decide) ?_
  intro p e s m args below meth c C hr
  obtain ⟨o0, a1, a2, a3, a4, a5, a6, a7, a8, a9, a10, a11, a12, a13, a14, a15, a16, a17, a18, a19, a20, a21, a22, a23, a24, a25, a26⟩ := id hms
  have lp : ∀ (fuel : Nat) (k : Nat) (L1 : LL), 25 < fuel + k → k ≤ 25 → (∀ q, q ≠ 5 → q ≠ 6 → L1 q = L q) → (∀ j, j < k → (L1 5 j, L1 6 j) = (L 3 j, L 4 j)) → J p l e (rmD 1) s m args below meth c (MQ below (QV G rg (fun I1 L1 => I = I1 ∧ (∀ q, q ≠ 5 → q ≠ 6 → L1 q = L q) ∧ ∀ k, k < 25 → (L1 5 k, L1 6 k) = (L 3 k, L 4 k))) args s 0 0 (rg_A G rg)) 2 G rg 0 0 I L1 2 [some (.ref (gB G + 0)), some (.int (nI k))] [] := by
    intro fuel
    induction fuel with
    | zero => intro k L1 h1 h2 hL hV; exfalso; omega
    | succ fuel ih_lp =>
      intro k L1 h1 h2 hL hV
      refine j_iload_n C dX7_keepMatrix_2 rfl rfl ?_
      refine j_bipush (v := nI 25) C dX7_keepMatrix_3 (by decide) ?_
      first | refine n_icmp_ge (tgt := 38) C (by omega) (by omega) dX7_keepMatrix_5 (by decide) (fun h_5 => ?_) (fun h_5 => ?_) | refine j_icmp_ge (tgt := 38) C dX7_keepMatrix_5 (by decide) (fun h_5 => ?_) (fun h_5 => ?_)
      · exact j_vret C hr dX7_keepMatrix_38 (⟨rfl, hL, fun j hj => hV j (by omega)⟩)
      · refine j_aload_n C dX7_keepMatrix_8 rfl rfl ?_
        refine g_getR C (o0) fl_X7_27 (by rfl) dX7_keepMatrix_9 ?_
        refine j_iload_n C dX7_keepMatrix_12 rfl rfl ?_
        refine j_aload_n C dX7_keepMatrix_13 rfl rfl ?_
        refine g_getR C (o0) fl_X7_20 (by rfl) dX7_keepMatrix_14 ?_
        refine j_iload_n C dX7_keepMatrix_17 rfl rfl ?_
        refine g_lald C (a3) (by omega) (by decide) dX7_keepMatrix_18 ?_
        refine t_l (y := L 3 k) (by rw [hL 3 (by decide) (by decide)]) ?_
        refine g_last C (a5) (by omega) (by decide) dX7_keepMatrix_19 ?_
        refine j_aload_n C dX7_keepMatrix_20 rfl rfl ?_
        refine g_getR C (o0) fl_X7_30 (by rfl) dX7_keepMatrix_21 ?_
        refine j_iload_n C dX7_keepMatrix_24 rfl rfl ?_
        refine j_aload_n C dX7_keepMatrix_25 rfl rfl ?_
        refine g_getR C (o0) fl_X7_24 (by rfl) dX7_keepMatrix_26 ?_
        refine j_iload_n C dX7_keepMatrix_29 rfl rfl ?_
        refine g_lald C (a4) (by omega) (by decide) dX7_keepMatrix_30 ?_
        refine t_l (y := L 4 k) (by rw [up2_ne _ (by decide), hL 4 (by decide) (by decide)]) ?_
        refine g_last C (a6) (by omega) (by decide) dX7_keepMatrix_31 ?_
        first | refine n_iinc (n := 1) C dX7_keepMatrix_32 rfl (by decide) ?_ | refine j_iinc C dX7_keepMatrix_32 rfl rfl (by decide) ?_
        refine j_goto (tgt := 2) C dX7_keepMatrix_35 (by decide) ?_
        exact ih_lp (k + 1) _ (by omega) (by omega) (fun q a b => by rw [up2_ne _ b, up2_ne _ a]; exact hL q a b) (km_s hV)
  refine j_iconst (v := nI 0) C dX7_keepMatrix_0 (by decide) ?_
  refine j_istore_n C dX7_keepMatrix_1 rfl (by decide) ?_
  exact lp 26 0 L (by omega) (by omega) (fun _ _ _ => rfl) (fun j hj => by omega)

set_option maxHeartbeats 4000000 in
set_option maxRecDepth 20000 in
theorem c_X7_beginProof (l : Launch) (G : GT) (rg : RgT) (I : II) (L : LL) (np : Nat) (x y : Int32) (hms : isMS rg) (hp : I 0 3 = nI np) : CtV l yX7_beginProof cX7_beginProof 3 none 1 G rg I L [.ref (gB G + 0), .int x, .int y] (fun I1 L1 => L = L1 ∧ (∀ q, q ≠ 0 → I1 q = I q) ∧ (∀ k, k ≠ 3 → k ≠ 32 → ¬ (36 ≤ k ∧ k ≤ 40) → I1 0 k = I 0 k) ∧ I1 0 3 = nI (np + 1) ∧ I1 0 32 = b2i false ∧ I1 0 36 = x ∧ I1 0 37 = y ∧ I1 0 38 = 0 ∧ I1 0 39 = 1 ∧ I1 0 40 = 0) := by
  refine ctV_of [some (.ref (gB G + 0)), some (.int x), some (.int y)] rfl (Nat.le_of_ble_eq_true rfl) (by decide) ?_
  intro p e s m args below meth c C hr
  obtain ⟨o0, a1, a2, a3, a4, a5, a6, a7, a8, a9, a10, a11, a12, a13, a14, a15, a16, a17, a18, a19, a20, a21, a22, a23, a24, a25, a26⟩ := id hms
  refine j_aload_n C dX7_beginProof_0 rfl rfl ?_
  refine j_dup C dX7_beginProof_1 rfl ?_
  refine g_getI C (o0) fl_X7_106 (by rfl) dX7_beginProof_2 ?_
  refine t_i hp ?_
  refine j_iconst (v := nI 1) C dX7_beginProof_5 (by decide) ?_
  first | refine n_iadd C dX7_beginProof_6 ?_ | refine j_iadd C dX7_beginProof_6 ?_
  refine g_putI C (o0) fw_X7_106 (by rfl) rfl (fits_int _) dX7_beginProof_7 ?_
  refine j_aload_n C dX7_beginProof_10 rfl rfl ?_
  refine j_iload_n C dX7_beginProof_11 rfl rfl ?_
  refine g_putI C (o0) fw_X7_236 (by rfl) rfl (fits_int _) dX7_beginProof_12 ?_
  refine j_aload_n C dX7_beginProof_15 rfl rfl ?_
  refine j_iload_n C dX7_beginProof_16 rfl rfl ?_
  refine g_putI C (o0) fw_X7_239 (by rfl) rfl (fits_int _) dX7_beginProof_17 ?_
  refine j_aload_n C dX7_beginProof_20 rfl rfl ?_
  refine j_iconst (v := nI 0) C dX7_beginProof_21 (by decide) ?_
  refine g_putI C (o0) fw_X7_242 (by rfl) rfl (fits_int _) dX7_beginProof_22 ?_
  refine j_aload_n C dX7_beginProof_25 rfl rfl ?_
  refine j_iconst (v := nI 1) C dX7_beginProof_26 (by decide) ?_
  refine g_putI C (o0) fw_X7_245 (by rfl) rfl (fits_int _) dX7_beginProof_27 ?_
  refine j_aload_n C dX7_beginProof_30 rfl rfl ?_
  refine j_iconst (v := nI 0) C dX7_beginProof_31 (by decide) ?_
  refine g_putI C (o0) fw_X7_248 (by rfl) rfl (fits_int _) dX7_beginProof_32 ?_
  refine j_aload_n C dX7_beginProof_35 rfl rfl ?_
  refine j_iconst (v := nI 0) C dX7_beginProof_36 (by decide) ?_
  refine g_putI C (o0) fw_X7_112 (by rfl) rfl (rfl) dX7_beginProof_37 ?_
  exact j_vret C hr dX7_beginProof_40 (⟨rfl, fun q hq => by simp only [up2_ne _ hq], fun k a b c => by simp only [up2_at, if_true]; repeat rw [if_neg (by omega)], by simp only [up2_at]; simp, by simp only [up2_at]; simp; rfl, by simp only [up2_at]; simp, by simp only [up2_at]; simp, by simp only [up2_at]; simp; rfl, by simp only [up2_at]; simp; rfl, by simp only [up2_at]; simp; rfl⟩)

set_option maxHeartbeats 4000000 in
set_option maxRecDepth 20000 in
theorem c_X7_end (l : Launch) (G : GT) (rg : RgT) (I : II) (L : LL) (c0 : Nat) (hms : isMS rg) (hc : c0 ≤ 2) : CtI l yX7_end cX7_end 2 (some FieldType.int) 1 G rg I L [.ref (gB G + 0), .int (nI c0)] (fun r I1 L1 => r = nI c0 ∧ L = L1 ∧ (∀ q, q ≠ 0 → I1 q = I q) ∧ (∀ k, k ≠ 14 → k ≠ 32 → k ≠ 35 → I1 0 k = I 0 k) ∧ I1 0 35 = nI c0 ∧ I1 0 14 = (if c0 = 1 then I 0 14 else 0) ∧ I1 0 32 = b2i (decide (c0 = 0))) := by
  refine ctI_of [some (.ref (gB G + 0)), some (.int (nI c0))] rfl (Nat.le_of_ble_eq_true rfl) (by decide) ?_
  intro p e s m args below meth c C hr
  obtain ⟨o0, a1, a2, a3, a4, a5, a6, a7, a8, a9, a10, a11, a12, a13, a14, a15, a16, a17, a18, a19, a20, a21, a22, a23, a24, a25, a26⟩ := id hms
  refine j_aload_n C dX7_end_0 rfl rfl ?_
  refine j_iload_n C dX7_end_1 rfl rfl ?_
  refine g_putI C (o0) fw_X7_94 (by rfl) rfl (fits_int _) dX7_end_2 ?_
  refine j_aload_n C dX7_end_5 rfl rfl ?_
  refine j_iload_n C dX7_end_6 rfl rfl ?_
  refine j_iconst (v := nI 1) C dX7_end_7 (by decide) ?_
  first | refine n_icmp_ne (tgt := 18) C (by omega) (by omega) dX7_end_8 (by decide) (fun h_8 => ?_) (fun h_8 => ?_) | refine j_icmp_ne (tgt := 18) C dX7_end_8 (by decide) (fun h_8 => ?_) (fun h_8 => ?_)
  · refine j_iconst (v := nI 0) C dX7_end_18 (by decide) ?_
    refine g_putI C (o0) fw_X7_109 (by rfl) rfl (fits_int _) dX7_end_19 ?_
    refine j_aload_n C dX7_end_22 rfl rfl ?_
    refine j_iload_n C dX7_end_23 rfl rfl ?_
    refine j_if_ne (tgt := 31) C dX7_end_24 (by decide) (fun h_24 => ?_) (fun h_24 => ?_)
    · refine j_iconst (v := nI 0) C dX7_end_31 (by decide) ?_
      refine g_putI C (o0) fw_X7_112 (by rfl) rfl (rfl) dX7_end_32 ?_
      refine j_iload_n C dX7_end_35 rfl rfl ?_
      exact j_iret C hr dX7_end_36 (by refine ⟨rfl, rfl, fun q hq => by simp only [up2_ne _ hq], fun k a b c => by simp only [up2_at, if_true]; repeat rw [if_neg (by omega)], by simp only [up2_at]; simp, ?_, ?_⟩ <;> rcases (show c0 = 0 ∨ c0 = 1 ∨ c0 = 2 by omega) with rfl | rfl | rfl <;> first | (exfalso; omega) | (exfalso; exact h_24 rfl) | (exfalso; exact absurd h_24 (by decide)) | (simp only [up2_at]; simp; done) | (simp only [up2_at]; simp; rfl))
    · refine j_iconst (v := nI 1) C dX7_end_27 (by decide) ?_
      refine j_goto (tgt := 32) C dX7_end_28 (by decide) ?_
      refine g_putI C (o0) fw_X7_112 (by rfl) rfl (rfl) dX7_end_32 ?_
      refine j_iload_n C dX7_end_35 rfl rfl ?_
      exact j_iret C hr dX7_end_36 (by refine ⟨rfl, rfl, fun q hq => by simp only [up2_ne _ hq], fun k a b c => by simp only [up2_at, if_true]; repeat rw [if_neg (by omega)], by simp only [up2_at]; simp, ?_, ?_⟩ <;> rcases (show c0 = 0 ∨ c0 = 1 ∨ c0 = 2 by omega) with rfl | rfl | rfl <;> first | (exfalso; omega) | (exfalso; exact h_24 rfl) | (exfalso; exact absurd h_24 (by decide)) | (simp only [up2_at]; simp; done) | (simp only [up2_at]; simp; rfl))
  · refine j_aload_n C dX7_end_11 rfl rfl ?_
    refine g_getI C (o0) fl_X7_109 (by rfl) dX7_end_12 ?_
    refine j_goto (tgt := 19) C dX7_end_15 (by decide) ?_
    refine g_putI C (o0) fw_X7_109 (by rfl) rfl (fits_int _) dX7_end_19 ?_
    refine j_aload_n C dX7_end_22 rfl rfl ?_
    refine j_iload_n C dX7_end_23 rfl rfl ?_
    refine j_if_ne (tgt := 31) C dX7_end_24 (by decide) (fun h_24 => ?_) (fun h_24 => ?_)
    · refine j_iconst (v := nI 0) C dX7_end_31 (by decide) ?_
      refine g_putI C (o0) fw_X7_112 (by rfl) rfl (rfl) dX7_end_32 ?_
      refine j_iload_n C dX7_end_35 rfl rfl ?_
      exact j_iret C hr dX7_end_36 (by refine ⟨rfl, rfl, fun q hq => by simp only [up2_ne _ hq], fun k a b c => by simp only [up2_at, if_true]; repeat rw [if_neg (by omega)], by simp only [up2_at]; simp, ?_, ?_⟩ <;> rcases (show c0 = 0 ∨ c0 = 1 ∨ c0 = 2 by omega) with rfl | rfl | rfl <;> first | (exfalso; omega) | (exfalso; exact h_24 rfl) | (exfalso; exact absurd h_24 (by decide)) | (simp only [up2_at]; simp; done) | (simp only [up2_at]; simp; rfl))
    · refine j_iconst (v := nI 1) C dX7_end_27 (by decide) ?_
      refine j_goto (tgt := 32) C dX7_end_28 (by decide) ?_
      refine g_putI C (o0) fw_X7_112 (by rfl) rfl (rfl) dX7_end_32 ?_
      refine j_iload_n C dX7_end_35 rfl rfl ?_
      exact j_iret C hr dX7_end_36 (by refine ⟨rfl, rfl, fun q hq => by simp only [up2_ne _ hq], fun k a b c => by simp only [up2_at, if_true]; repeat rw [if_neg (by omega)], by simp only [up2_at]; simp, ?_, ?_⟩ <;> rcases (show c0 = 0 ∨ c0 = 1 ∨ c0 = 2 by omega) with rfl | rfl | rfl <;> first | (exfalso; omega) | (exfalso; exact h_24 rfl) | (exfalso; exact absurd h_24 (by decide)) | (simp only [up2_at]; simp; done) | (simp only [up2_at]; simp; rfl))
