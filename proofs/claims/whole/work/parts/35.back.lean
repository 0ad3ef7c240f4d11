/-! ===== the model: point ===== -/
theorem mop_bw {w : Bool} {x : Option Fr} {f : Fr → Option Fr} : mop (mop w x).1 (f (mop w x).2) = mop w (x.bind f) := by cases w <;> cases x <;> rfl
/-- a chain of steps: mark at its start, mark now, the number now, what is still to come, what it all comes to -/
def BI {α : Type} (w0 w : Bool) (a : Fr) (cur : Fr → Option α) (T : Option α) : Prop := (w = true → w0 = true ∨ T = none) ∧ (w = false → w0 = false ∧ WF a ∧ cur a = T)
theorem BI_s {α : Type} {w0 w : Bool} {a : Fr} {y : Fr → Option Fr} {cur cur1 : Fr → Option α} {T : Option α} {x : Bool × Fr} (h : BI w0 w a cur T) (hx : x = mop w (y a)) (hy : ∀ z, y a = some z → WF z) (hc : cur a = (y a).bind cur1) : BI w0 x.1 x.2 cur1 T := by
  cases w with
  | true => rw [hx, mop_t]; exact ⟨fun _ => h.1 rfl, fun q => by cases q⟩
  | false =>
    obtain ⟨h1, h2, h3⟩ := h.2 rfl
    cases hq : y a with
    | none => rw [hx, hq, mop_n]; refine ⟨fun _ => Or.inr ?_, (fun q => by cases q)⟩; rw [← h3, hc, hq]; rfl
    | some z => rw [hx, hq, mop_s]; refine ⟨(fun q => by cases q), fun _ => ⟨h1, hy z hq, ?_⟩⟩; rw [← h3, hc, hq]; rfl
theorem BI_k {α : Type} {w0 w : Bool} {a : Fr} {cur cur1 : Fr → Option α} {T : Option α} (h : BI w0 w a cur T) (hc : w = false → WF a → cur a = cur1 a) : BI w0 w a cur1 T := ⟨h.1, fun q => ⟨(h.2 q).1, (h.2 q).2.1, (hc q (h.2 q).2.1).symm.trans (h.2 q).2.2⟩⟩
theorem WF_i1 (v : Int32) : WF (v.toInt64, 1) := ⟨i2l_ne v, show 0 < (1 : Int64).toInt by decide, by unfold gcdN; exact Nat.gcd_one_right _⟩
theorem WF_01 : WF (0, 1) := ⟨show (0 : Int64) ≠ LEA by decide, show 0 < (1 : Int64).toInt by decide, by unfold gcdN; exact Nat.gcd_one_right _⟩
theorem woJ_1 {f : Nat → Int32} {X : Nat → Fr} {n i j : Nat} {a : Fr} (hj : j ≤ n) : woJ f X n i (n + 1 - j) a = ((tmO f X i j).bind (fAdd a)).bind (woJ f X n i (n + 1 - (j + 1))) := by
  rw [show n + 1 - j = (n - j) + 1 by omega, woJ, show n - (n - j) = j by omega, show n + 1 - (j + 1) = n - j by omega]
theorem woI_1 {f : Nat → Int32} {X : Nat → Fr} {n i : Nat} {a : Fr} (hi : i ≤ n) : woI f X n (n + 1 - i) a = (woJ f X n i (n + 1 - i) a).bind (woI f X n (n + 1 - (i + 1))) := by
  rw [show n + 1 - i = (n - i) + 1 by omega, woI, show n - (n - i) = i by omega, show n + 1 - (i + 1) = n - i by omega]
theorem nw_s {L1 : LL} {i : Nat} (h : ∀ j, j < i → (L1 19 j, L1 20 j) = ((0, 1) : Fr)) : ∀ j, j < i + 1 → (up2 (up2 L1 19 i 0) 20 i 1 19 j, up2 (up2 L1 19 i 0) 20 i 1 20 j) = ((0, 1) : Fr) := fun j hj => by
  rw [up2_ne _ (show (19 : Nat) ≠ 20 by decide), up2_at, up2_at, if_pos rfl, if_pos rfl, up2_ne _ (show (20 : Nat) ≠ 19 by decide)]
  by_cases e : j = i
  · rw [if_pos e, if_pos e]
  · rw [if_neg e, if_neg e]; exact h j (by omega)
set_option maxHeartbeats 4000000 in
set_option maxRecDepth 20000 in
theorem c_X7_noWitness (l : Launch) (G : GT) (rg : RgT) (I : II) (L : LL) (hms : isMS rg) : CtV l yX7_noWitness cX7_noWitness 2 none 1 G rg I L [.ref (gB G + 0)] (fun I1 L1 => I = I1 ∧ (∀ q, q ≠ 19 → q ≠ 20 → L1 q = L q) ∧ ∀ j, j < 5 → (L1 19 j, L1 20 j) = (0, 1)) := by
  refine ctV_of [some (.ref (gB G + 0)), none] rfl (Nat.le_of_ble_eq_true rfl) (by decide) ?_
  intro p e s m args below meth c C hr
  obtain ⟨o0, a1, a2, a3, a4, a5, a6, a7, a8, a9, a10, a11, a12, a13, a14, a15, a16, a17, a18, a19, a20, a21, a22, a23, a24, a25, a26⟩ := id hms
  have lp : ∀ (fuel : Nat) (i : Nat) (L1 : LL), 5 < fuel + i → i ≤ 5 → (∀ q, q ≠ 19 → q ≠ 20 → L1 q = L q) → (∀ j, j < i → (L1 19 j, L1 20 j) = (0, 1)) → J p l e (rmD 1) s m args below meth c (MQ below (QV G rg (fun I1 L1 => I = I1 ∧ (∀ q, q ≠ 19 → q ≠ 20 → L1 q = L q) ∧ ∀ j, j < 5 → (L1 19 j, L1 20 j) = (0, 1))) args s 0 0 (rg_A G rg)) 2 G rg 0 0 I L1 2 [some (.ref (gB G + 0)), some (.int (nI i))] [] := by
    intro fuel
    induction fuel with
    | zero => intro i L1 h1 h2 hL hV; exfalso; omega
    | succ fuel ih_lp =>
      intro i L1 h1 h2 hL hV
      refine j_iload_n C dX7_noWitness_2 rfl rfl ?_
      refine j_iconst (v := nI 5) C dX7_noWitness_3 (by decide) ?_
      first | refine n_icmp_ge (tgt := 27) C (by omega) (by omega) dX7_noWitness_4 (by decide) (fun h_4 => ?_) (fun h_4 => ?_) | refine j_icmp_ge (tgt := 27) C dX7_noWitness_4 (by decide) (fun h_4 => ?_) (fun h_4 => ?_)
      · exact j_vret C hr dX7_noWitness_27 (⟨rfl, hL, fun j hj => hV j (by omega)⟩)
      · refine j_aload_n C dX7_noWitness_7 rfl rfl ?_
        refine g_getR C (o0) fl_X7_70 (by rfl) dX7_noWitness_8 ?_
        refine j_iload_n C dX7_noWitness_11 rfl rfl ?_
        refine j_lconst (v := 0) C dX7_noWitness_12 (by decide) ?_
        refine g_last C (a19) (by omega) (by decide) dX7_noWitness_13 ?_
        refine j_aload_n C dX7_noWitness_14 rfl rfl ?_
        refine g_getR C (o0) fl_X7_73 (by rfl) dX7_noWitness_15 ?_
        refine j_iload_n C dX7_noWitness_18 rfl rfl ?_
        refine j_lconst (v := 1) C dX7_noWitness_19 (by decide) ?_
        refine g_last C (a20) (by omega) (by decide) dX7_noWitness_20 ?_
        first | refine n_iinc (n := 1) C dX7_noWitness_21 rfl (by decide) ?_ | refine j_iinc C dX7_noWitness_21 rfl rfl (by decide) ?_
        refine j_goto (tgt := 2) C dX7_noWitness_24 (by decide) ?_
        exact ih_lp (i + 1) _ (by omega) (by omega) (fun q a b => by rw [up2_ne _ b, up2_ne _ a]; exact hL q a b) (nw_s hV)
  refine j_iconst (v := nI 0) C dX7_noWitness_0 (by decide) ?_
  refine j_istore_n C dX7_noWitness_1 rfl (by decide) ?_
  exact lp 6 0 L (by omega) (by omega) (fun _ _ _ => rfl) (fun j hj => by omega)

theorem ib_0 {n : Nat} {L : LL} {X : Nat → Fr} (h0 : X 0 = (1, 1)) (h : ∀ k, 1 ≤ k → k ≤ n → (L 21 k, L 22 k) = X k) : ∀ k, k ≤ n → (up2 (up2 L 21 0 1) 22 0 1 21 k, up2 (up2 L 21 0 1) 22 0 1 22 k) = X k := fun k hk => by
  rw [up2_ne _ (show (21 : Nat) ≠ 22 by decide), up2_at, up2_at, if_pos rfl, if_pos rfl, up2_ne _ (show (22 : Nat) ≠ 21 by decide)]
  by_cases e : k = 0
  · rw [if_pos e, if_pos e, e, h0]
  · rw [if_neg e, if_neg e]; exact h k (by omega) hk
theorem ib_1 {L L1 : LL} (hL : ∀ q, q ≠ 0 → L1 q = up2 (up2 L 21 0 1) 22 0 1 q) {k : Nat} (hk : 1 ≤ k) : (L1 21 k, L1 22 k) = (L 21 k, L 22 k) := by
  rw [hL 21 (by decide), hL 22 (by decide), up2_ne _ (show (21 : Nat) ≠ 22 by decide), up2_at, up2_at, if_pos rfl, if_pos rfl, up2_ne _ (show (22 : Nat) ≠ 21 by decide), if_neg (by omega), if_neg (by omega)]
theorem mop_k1 {w : Bool} {x : Option Fr} {y : Bool × Fr} (hy : y = mop w x) (h : ∀ z, x = some z → WF z) (q : y.1 = false) : w = false ∧ WF y.2 := by
  subst hy
  cases w with
  | true => cases q
  | false => exact ⟨rfl, mop_W h q⟩
theorem bb_1 {α : Type} {x : Option Fr} {f g : Fr → Option Fr} {h : Fr → Option α} : ((x.bind f).bind g).bind h = (x.bind f).bind (fun a => (g a).bind h) := by cases x.bind f <;> rfl
theorem mop_3 {w : Bool} {v a : Fr} {X Y : Fr} {x1 x2 x3 : Bool × Fr} (h1 : x1 = mop w (fMul v X)) (h2 : x2 = mop x1.1 (fMul x1.2 Y)) (h3 : x3 = mop x2.1 (fAdd a x2.2)) : x3 = mop w (((fMul v X).bind (fun b => fMul b Y)).bind (fAdd a)) := by
  rw [h3, h2, h1, mop_bw (f := fun b => fMul b Y), mop_bw]
theorem tb_WF {f : Nat → Int32} {X : Nat → Fr} {i j : Nat} {a z : Fr} (h : (tmO f X i j).bind (fAdd a) = some z) : WF z := by
  cases ht : tmO f X i j with
  | none => rw [ht] at h; cases h
  | some y => rw [ht] at h; exact fAdd_WF h
set_option maxHeartbeats 4000000 in
set_option maxRecDepth 20000 in
theorem c_X7_isBelow (l : Launch) (G : GT) (rg : RgT) (I : II) (L : LL) (n fm : Nat) (f : Nat → Int32) (X : Nat → Fr) (w : Bool) (hms : isMS rg) (hn : I 0 0 = nI n) (hn4 : n < 5) (hw : I 0 7 = b2i w) (h8 : I 0 8 = b2i false) (hfm : fm < 12) (hf : ∀ k, k < 25 → I 1 (25 * fm + k) = f k) (hX0 : X 0 = (1, 1)) (hXL : ∀ k, 1 ≤ k → k ≤ n → (L 21 k, L 22 k) = X k) (hXW : w = false → ∀ k, k ≤ n → WF (X k)) : CtI l yX7_isBelow cX7_isBelow 8 (some FieldType.boolean) 4 G rg I L [.ref (gB G + 0), .int (nI fm)] (fun r I1 L1 => ∃ w1, setW I w1 = I1 ∧ (∀ q, q ≠ 0 → q ≠ 21 → q ≠ 22 → L1 q = L q) ∧ (∀ k, 1 ≤ k → (L1 21 k, L1 22 k) = (L 21 k, L 22 k)) ∧ (w1 = true → w = true ∨ woI f X n (n + 1) (0, 1) = none) ∧ (w1 = false → w = false ∧ ∃ z, woI f X n (n + 1) (0, 1) = some z ∧ r = b2i (decide (z.1 < 0)))) := by
  refine ctI_of [some (.ref (gB G + 0)), some (.int (nI fm)), none, none, none, none, none, none] rfl (Nat.le_of_ble_eq_true rfl) (by decide) ?_
  intro p e s m args below meth c C hr
  obtain ⟨o0, a1, a2, a3, a4, a5, a6, a7, a8, a9, a10, a11, a12, a13, a14, a15, a16, a17, a18, a19, a20, a21, a22, a23, a24, a25, a26⟩ := id hms
  have hPX : ∀ k, k ≤ n → ((up2 (up2 L 21 0 1) 22 0 1) 21 k, (up2 (up2 L 21 0 1) 22 0 1) 22 k) = X k := ib_0 hX0 hXL
  have lp : ∀ (fuel : Nat) (i : Nat) (w1 : Bool) (L1 : LL) (a : Fr), n + 1 < fuel + i → i ≤ n + 1 → (∀ q, q ≠ 0 → L1 q = (up2 (up2 L 21 0 1) 22 0 1) q) → BI w w1 a (woI f X n (n + 1 - i)) (woI f X n (n + 1) (0, 1)) → J p l e (rmD 4) s m args below meth c (MQ below (QI G rg (fun r I1 L1 => ∃ w1, setW I w1 = I1 ∧ (∀ q, q ≠ 0 → q ≠ 21 → q ≠ 22 → L1 q = L q) ∧ (∀ k, 1 ≤ k → (L1 21 k, L1 22 k) = (L 21 k, L 22 k)) ∧ (w1 = true → w = true ∨ woI f X n (n + 1) (0, 1) = none) ∧ (w1 = false → w = false ∧ ∃ z, woI f X n (n + 1) (0, 1) = some z ∧ r = b2i (decide (z.1 < 0))))) args s 0 0 (rg_A G rg)) 8 G rg 0 0 (setW I w1) L1 22 [some (.ref (gB G + 0)), some (.int (nI fm)), some (.long a.1), none, some (.long a.2), none, some (.int (nI i)), none] [] := by
    intro fuel
    induction fuel with
    | zero => intro i w1 L1 a h1 h2 hL hB; exfalso; omega
    | succ fuel ih_lp =>
      intro i w1 L1 a h1 h2 hL hB
      refine j_iload C dX7_isBelow_22 rfl ?_
      refine j_aload_n C dX7_isBelow_24 rfl rfl ?_
      refine g_getI C (o0) fl_X7_7 (by rfl) dX7_isBelow_25 ?_
      refine t_i (y := nI n) ((setW_k _ _ (by decide)).trans hn) ?_
      first | refine n_icmp_gt (tgt := 146) C (by omega) (by omega) dX7_isBelow_28 (by decide) (fun h_28 => ?_) (fun h_28 => ?_) | refine j_icmp_gt (tgt := 146) C dX7_isBelow_28 (by decide) (fun h_28 => ?_) (fun h_28 => ?_)
      · refine j_lload_n C dX7_isBelow_146 rfl rfl ?_
        refine j_lconst (v := 0) C dX7_isBelow_147 (by decide) ?_
        refine j_lc_ge (tgt := 156) C dX7_isBelow_148 dX7_isBelow_149 (by decide) (fun h_149 => ?_) (fun h_149 => ?_)
        · refine j_iconst (v := nI 0) C dX7_isBelow_156 (by decide) ?_
          exact j_zret C hr (by first | rfl | exact b2i_n _ rfl) dX7_isBelow_157 (⟨w1, rfl, fun q q1 q2 q3 => by rw [hL q q1, up2_ne _ q3, up2_ne _ q2], fun k hk => ib_1 hL hk, hB.1, fun q => ⟨(hB.2 q).1, a, by have := (hB.2 q).2.2; rw [← this, show n + 1 - i = 0 by omega]; rfl, by first | (rw [decide_eq_true (Int64.not_le.mp h_149)]; rfl) | (rw [decide_eq_false (Int64.not_lt.mpr h_149)]; rfl)⟩⟩)
        · refine j_iconst (v := nI 1) C dX7_isBelow_152 (by decide) ?_
          refine j_goto (tgt := 157) C dX7_isBelow_153 (by decide) ?_
          exact j_zret C hr (by first | rfl | exact b2i_n _ rfl) dX7_isBelow_157 (⟨w1, rfl, fun q q1 q2 q3 => by rw [hL q q1, up2_ne _ q3, up2_ne _ q2], fun k hk => ib_1 hL hk, hB.1, fun q => ⟨(hB.2 q).1, a, by have := (hB.2 q).2.2; rw [← this, show n + 1 - i = 0 by omega]; rfl, by first | (rw [decide_eq_true (Int64.not_le.mp h_149)]; rfl) | (rw [decide_eq_false (Int64.not_lt.mpr h_149)]; rfl)⟩⟩)
      · refine j_iload C dX7_isBelow_31 rfl ?_
        refine j_istore C dX7_isBelow_33 (by decide) ?_
        have lq : ∀ (fuel : Nat) (j : Nat) (w1 : Bool) (L1 : LL) (a : Fr), n + 1 < fuel + j → i ≤ j → j ≤ n + 1 → (∀ q, q ≠ 0 → L1 q = (up2 (up2 L 21 0 1) 22 0 1) q) → BI w w1 a (fun a => (woJ f X n i (n + 1 - j) a).bind (woI f X n (n + 1 - (i + 1)))) (woI f X n (n + 1) (0, 1)) → J p l e (rmD 4) s m args below meth c (MQ below (QI G rg (fun r I1 L1 => ∃ w1, setW I w1 = I1 ∧ (∀ q, q ≠ 0 → q ≠ 21 → q ≠ 22 → L1 q = L q) ∧ (∀ k, 1 ≤ k → (L1 21 k, L1 22 k) = (L 21 k, L 22 k)) ∧ (w1 = true → w = true ∨ woI f X n (n + 1) (0, 1) = none) ∧ (w1 = false → w = false ∧ ∃ z, woI f X n (n + 1) (0, 1) = some z ∧ r = b2i (decide (z.1 < 0))))) args s 0 0 (rg_A G rg)) 8 G rg 0 0 (setW I w1) L1 35 [some (.ref (gB G + 0)), some (.int (nI fm)), some (.long a.1), none, some (.long a.2), none, some (.int (nI i)), some (.int (nI j))] [] := by
          intro fuel
          induction fuel with
          | zero => intro j w1 L1 a q1 q2 q3 hL hB; exfalso; omega
          | succ fuel ih_lq =>
            intro j w1 L1 a q1 q2 q3 hL hB
            refine j_iload C dX7_isBelow_35 rfl ?_
            refine j_aload_n C dX7_isBelow_37 rfl rfl ?_
            refine g_getI C (o0) fl_X7_7 (by rfl) dX7_isBelow_38 ?_
            refine t_i (y := nI n) ((setW_k _ _ (by decide)).trans hn) ?_
            first | refine n_icmp_gt (tgt := 140) C (by omega) (by omega) dX7_isBelow_41 (by decide) (fun h_41 => ?_) (fun h_41 => ?_) | refine j_icmp_gt (tgt := 140) C dX7_isBelow_41 (by decide) (fun h_41 => ?_) (fun h_41 => ?_)
            · first | refine n_iinc (n := 1) C dX7_isBelow_140 rfl (by decide) ?_ | refine j_iinc C dX7_isBelow_140 rfl rfl (by decide) ?_
              refine j_goto (tgt := 22) C dX7_isBelow_143 (by decide) ?_
              refine j_rm 7 ?_
              exact ih_lp (i + 1) w1 L1 a (by omega) (by omega) hL (BI_k hB (fun _ _ => by show (woJ f X n i (n + 1 - j) a).bind _ = _; rw [show n + 1 - j = 0 by omega]; rfl))
            · refine j_aload_n C dX7_isBelow_44 rfl rfl ?_
              refine j_aload_n C dX7_isBelow_45 rfl rfl ?_
              refine g_getR C (o0) fl_X7_13 (by rfl) dX7_isBelow_46 ?_
              refine j_bipush (v := nI 25) C dX7_isBelow_49 (by decide) ?_
              refine j_iload_n C dX7_isBelow_51 rfl rfl ?_
              first | refine n_imul C dX7_isBelow_52 ?_ | refine j_imul C dX7_isBelow_52 ?_
              refine j_aload_n C dX7_isBelow_53 rfl rfl ?_
              refine j_iload C dX7_isBelow_54 rfl ?_
              refine j_iload C dX7_isBelow_56 rfl ?_
              refine g_cvI C vc_X7_125 (c_X7_at l G rg _ _ _ _ (by omega) (by omega)) ⟨Nat.le_of_ble_eq_true rfl, Nat.le_of_ble_eq_true rfl⟩ (o0) rfl rfl (Nat.le_of_ble_eq_true rfl) ⟨Nat.zero_le _, Nat.zero_le _⟩ dX7_isBelow_58 (fun r_58 I_58 L_58 p_58 => ?_)
              obtain ⟨rfl, rfl, rfl⟩ := p_58
              have hix := ix_lt (show i < 5 by omega) (show j < 5 by omega)
              have pX : ∀ k, k ≤ n → (L1 21 k, L1 22 k) = X k := fun k hk => by rw [hL 21 (by decide), hL 22 (by decide)]; exact hPX k hk
              first | refine n_iadd C dX7_isBelow_61 ?_ | refine j_iadd C dX7_isBelow_61 ?_
              refine g_iald C (a1) (by omega) (by decide) dX7_isBelow_62 ?_
              refine t_i (y := f (ix i j)) ((congrFun (setW_q _ _ (by decide)) _).trans (hf _ hix)) ?_
              refine j_i2l C dX7_isBelow_63 ?_
              refine j_lconst (v := 1) C dX7_isBelow_64 (by decide) ?_
              refine j_aload_n C dX7_isBelow_65 rfl rfl ?_
              refine g_getR C (o0) fl_X7_76 (by rfl) dX7_isBelow_66 ?_
              refine j_iload C dX7_isBelow_69 rfl ?_
              refine g_lald C (a21) (by omega) (by decide) dX7_isBelow_71 ?_
              refine t_l (congrArg Prod.fst (pX i (by omega))) ?_
              refine j_aload_n C dX7_isBelow_72 rfl rfl ?_
              refine g_getR C (o0) fl_X7_79 (by rfl) dX7_isBelow_73 ?_
              refine j_iload C dX7_isBelow_76 rfl ?_
              refine g_lald C (a22) (by omega) (by decide) dX7_isBelow_78 ?_
              refine t_l (congrArg Prod.snd (pX i (by omega))) ?_
              refine g_cvV C vc_X7_179 (c_X7_product l G rg _ _ w1 _ _ _ _ hms (setW_7 _ _) ((setW_k _ _ (by decide)).trans h8) (fun _ => WF_i1 _) (fun q => hXW (hB.2 q).1 i (by omega))) ⟨Nat.le_of_ble_eq_true rfl, Nat.le_of_ble_eq_true rfl⟩ (o0) rfl rfl (Nat.le_of_ble_eq_true rfl) ⟨Nat.zero_le _, Nat.zero_le _⟩ dX7_isBelow_79 (fun I_79 L_79 p_79 => ?_)
              obtain ⟨e1, e2⟩ := p_79
              rw [setW_2] at e1
              try rw [setU_2] at e2
              obtain ⟨x1, hx1⟩ : ∃ x, x = mop w1 (fMul ((f (ix i j)).toInt64, 1) (X i)) := ⟨_, rfl⟩
              change setW I (mop w1 (fMul ((f (ix i j)).toInt64, 1) (X i))).1 = _ at e1
              change setU L1 (mop w1 (fMul ((f (ix i j)).toInt64, 1) (X i))).2 = _ at e2
              rw [← hx1] at e1 e2
              subst e1
              subst e2
              have k1 : x1.1 = false → w1 = false ∧ WF x1.2 := fun q => mop_k1 hx1 (fun _ z => fMul_WF z) q
              refine j_aload_n C dX7_isBelow_82 rfl rfl ?_
              refine j_aload_n C dX7_isBelow_83 rfl rfl ?_
              refine g_getL C (o0) fl_X7_147 (by rfl) dX7_isBelow_84 ?_
              refine t_l (setU_5 _ _) ?_
              refine j_aload_n C dX7_isBelow_87 rfl rfl ?_
              refine g_getL C (o0) fl_X7_151 (by rfl) dX7_isBelow_88 ?_
              refine t_l (setU_6 _ _) ?_
              refine j_aload_n C dX7_isBelow_91 rfl rfl ?_
              refine g_getR C (o0) fl_X7_76 (by rfl) dX7_isBelow_92 ?_
              refine j_iload C dX7_isBelow_95 rfl ?_
              refine g_lald C (a21) (by omega) (by decide) dX7_isBelow_97 ?_
              refine t_l ((congrFun (setU_q _ _ (by decide)) _).trans (congrArg Prod.fst (pX j (by omega)))) ?_
              refine j_aload_n C dX7_isBelow_98 rfl rfl ?_
              refine g_getR C (o0) fl_X7_79 (by rfl) dX7_isBelow_99 ?_
              refine j_iload C dX7_isBelow_102 rfl ?_
              refine g_lald C (a22) (by omega) (by decide) dX7_isBelow_104 ?_
              refine t_l ((congrFun (setU_q _ _ (by decide)) _).trans (congrArg Prod.snd (pX j (by omega)))) ?_
              refine g_cvV C vc_X7_179 (c_X7_product l G rg _ _ x1.1 _ _ _ _ hms (setW_7 _ _) ((setW_k _ _ (by decide)).trans h8) (fun q => (k1 q).2) (fun q => hXW (hB.2 (k1 q).1).1 j (by omega))) ⟨Nat.le_of_ble_eq_true rfl, Nat.le_of_ble_eq_true rfl⟩ (o0) rfl rfl (Nat.le_of_ble_eq_true rfl) ⟨Nat.zero_le _, Nat.zero_le _⟩ dX7_isBelow_105 (fun I_105 L_105 p_105 => ?_)
              obtain ⟨e1, e2⟩ := p_105
              rw [setW_2] at e1
              try rw [setU_2] at e2
              obtain ⟨x2, hx2⟩ : ∃ x, x = mop x1.1 (fMul x1.2 (X j)) := ⟨_, rfl⟩
              change setW I (mop x1.1 (fMul x1.2 (X j))).1 = _ at e1
              change setU L1 (mop x1.1 (fMul x1.2 (X j))).2 = _ at e2
              rw [← hx2] at e1 e2
              subst e1
              subst e2
              have k2 : x2.1 = false → x1.1 = false ∧ WF x2.2 := fun q => mop_k1 hx2 (fun _ z => fMul_WF z) q
              refine j_aload_n C dX7_isBelow_108 rfl rfl ?_
              refine j_lload_n C dX7_isBelow_109 rfl rfl ?_
              refine j_lload C dX7_isBelow_110 rfl ?_
              refine j_aload_n C dX7_isBelow_112 rfl rfl ?_
              refine g_getL C (o0) fl_X7_147 (by rfl) dX7_isBelow_113 ?_
              refine t_l (setU_5 _ _) ?_
              refine j_aload_n C dX7_isBelow_116 rfl rfl ?_
              refine g_getL C (o0) fl_X7_151 (by rfl) dX7_isBelow_117 ?_
              refine t_l (setU_6 _ _) ?_
              refine g_cvV C vc_X7_224 (c_X7_sum l G rg _ _ x2.1 _ _ _ _ hms (setW_7 _ _) ((setW_k _ _ (by decide)).trans h8) (fun q => (hB.2 (k1 (k2 q).1).1).2.1) (fun q => (k2 q).2)) ⟨Nat.le_of_ble_eq_true rfl, Nat.le_of_ble_eq_true rfl⟩ (o0) rfl rfl (Nat.le_of_ble_eq_true rfl) ⟨Nat.zero_le _, Nat.zero_le _⟩ dX7_isBelow_120 (fun I_120 L_120 p_120 => ?_)
              obtain ⟨e1, e2⟩ := p_120
              rw [setW_2] at e1
              try rw [setU_2] at e2
              obtain ⟨x3, hx3⟩ : ∃ x, x = mop x2.1 (fAdd a x2.2) := ⟨_, rfl⟩
              change setW I (mop x2.1 (fAdd a x2.2)).1 = _ at e1
              change setU L1 (mop x2.1 (fAdd a x2.2)).2 = _ at e2
              rw [← hx3] at e1 e2
              subst e1
              subst e2
              refine j_aload_n C dX7_isBelow_123 rfl rfl ?_
              refine g_getL C (o0) fl_X7_147 (by rfl) dX7_isBelow_124 ?_
              refine t_l (setU_5 _ _) ?_
              refine j_lstore_n C dX7_isBelow_127 rfl (by decide) ?_
              refine j_aload_n C dX7_isBelow_128 rfl rfl ?_
              refine g_getL C (o0) fl_X7_151 (by rfl) dX7_isBelow_129 ?_
              refine t_l (setU_6 _ _) ?_
              refine j_lstore C dX7_isBelow_132 (by decide) ?_
              first | refine n_iinc (n := 1) C dX7_isBelow_134 rfl (by decide) ?_ | refine j_iinc C dX7_isBelow_134 rfl rfl (by decide) ?_
              refine j_goto (tgt := 35) C dX7_isBelow_137 (by decide) ?_
              exact ih_lq (j + 1) x3.1 _ x3.2 (by omega) (by omega) (by omega) (fun q q0 => by rw [setU_q _ _ q0]; exact hL q q0) (BI_s hB (y := fun a => (tmO f X i j).bind (fAdd a)) (mop_3 hx1 hx2 hx3) (fun z hz => tb_WF hz) (by show (woJ f X n i (n + 1 - j) a).bind _ = _; rw [woJ_1 (by omega)]; exact bb_1))
        exact lq (n + 2) i w1 L1 a (by omega) (by omega) (by omega) hL (BI_k hB (fun _ _ => woI_1 (by omega)))
  refine j_aload_n C dX7_isBelow_0 rfl rfl ?_
  refine g_getR C (o0) fl_X7_76 (by rfl) dX7_isBelow_1 ?_
  refine j_iconst (v := nI 0) C dX7_isBelow_4 (by decide) ?_
  refine j_lconst (v := 1) C dX7_isBelow_5 (by decide) ?_
  refine g_last C (a21) (by omega) (by decide) dX7_isBelow_6 ?_
  refine j_aload_n C dX7_isBelow_7 rfl rfl ?_
  refine g_getR C (o0) fl_X7_79 (by rfl) dX7_isBelow_8 ?_
  refine j_iconst (v := nI 0) C dX7_isBelow_11 (by decide) ?_
  refine j_lconst (v := 1) C dX7_isBelow_12 (by decide) ?_
  refine g_last C (a22) (by omega) (by decide) dX7_isBelow_13 ?_
  refine j_lconst (v := 0) C dX7_isBelow_14 (by decide) ?_
  refine j_lstore_n C dX7_isBelow_15 rfl (by decide) ?_
  refine j_lconst (v := 1) C dX7_isBelow_16 (by decide) ?_
  refine j_lstore C dX7_isBelow_17 (by decide) ?_
  refine j_iconst (v := nI 0) C dX7_isBelow_19 (by decide) ?_
  refine j_istore C dX7_isBelow_20 (by decide) ?_
  refine t_IL (setW_s hw).symm rfl ?_
  exact lp (n + 2) 0 w (up2 (up2 L 21 0 1) 22 0 1) (0, 1) (by omega) (by omega) (fun _ _ => rfl) ⟨fun q => Or.inl q, fun q => ⟨q, WF_01, by rw [Nat.sub_zero]⟩⟩

theorem b2i_1 {b : Bool} : b2i b = nI 1 ↔ b = true := by cases b <;> decide
theorem gb_v {L2 : LL} {V : Nat → Fr} {p : Nat} {z : Fr} (h : ∀ j, j < 5 → (L2 19 j, L2 20 j) = V j) : ∀ j, j < 5 → (up2 (up2 (setU L2 z) 19 p z.1) 20 p z.2 19 j, up2 (up2 (setU L2 z) 19 p z.1) 20 p z.2 20 j) = va_up V p z j := fun j hj => by
  rw [up2_ne _ (show (19 : Nat) ≠ 20 by decide), up2_at, up2_at, if_pos rfl, if_pos rfl, up2_ne _ (show (20 : Nat) ≠ 19 by decide), setU_q _ _ (by decide), setU_q _ _ (by decide)]
  by_cases e : j = p
  · rw [if_pos e, if_pos e, e, va_up_self]
  · rw [if_neg e, if_neg e, va_up_ne _ _ e]; exact h j hj
theorem up_19 {L : LL} {z : Fr} {q : Nat} {v : Int64} : up2 (setU L z) 19 q v 0 6 = z.2 := by rw [up2_ne _ (by decide)]; exact setU_6 _ _
def GBi (n : Nat) (E : ES) (T : Option (Nat → Fr)) (L L1 : LL) (w : Bool) (V : Nat → Fr) (t : Nat) : Prop := (∀ q, q ≠ 0 → q ≠ 19 → q ≠ 20 → L1 q = L q) ∧ (w = true → T = none) ∧ (w = false → (∀ j, j < 5 → (L1 19 j, L1 20 j) = V j) ∧ (∀ j, j < 5 → WF (V j)) ∧ gbO n E t V = T)
theorem GB_s {n s : Nat} {E : ES} {T : Option (Nat → Fr)} {L L1 L2 : LL} {V : Nat → Fr} {w : Bool} {a : Fr} {x : Bool × Fr} (h : GBi n E T L L1 false V (s + 1)) (hL : ∀ q, q ≠ 0 → L2 q = L1 q) (hB : BI false w a (fun z => gbO n E s (va_up V (eP E s) (ngF z))) T) (hx : x = mop w (fSub (0, 1) a)) : GBi n E T L (up2 (up2 (setU L2 x.2) 19 (eP E s) x.2.1) 20 (eP E s) x.2.2) x.1 (va_up V (eP E s) (ngF a)) s := by
  obtain ⟨h1, h2, h3⟩ := h
  obtain ⟨h4, h5, h6⟩ := h3 rfl
  refine ⟨fun q q0 q1 q2 => by rw [up2_ne _ q2, up2_ne _ q1, setU_q _ _ q0, hL q q0]; exact h1 q q0 q1 q2, fun q => ?_, fun q => ?_⟩
  · cases w with
    | true => rcases hB.1 rfl with e | e; (cases e); exact e
    | false => rw [hx, fSub_0 (hB.2 rfl).2.1, mop_s] at q; cases q
  · cases w with
    | true => rw [hx, mop_t] at q; cases q
    | false =>
      obtain ⟨_, b1, b2⟩ := hB.2 rfl
      rw [fSub_0 b1, mop_s] at hx
      subst hx
      refine ⟨gb_v (fun j hj => by rw [hL 19 (by decide), hL 20 (by decide)]; exact h4 j hj), fun j hj => ?_, b2⟩
      by_cases e : j = eP E s
      · rw [e, va_up_self]; exact b1.ng
      · rw [va_up_ne _ _ e]; exact h5 j hj
theorem mop_2 {w : Bool} {a X Y : Fr} {x1 x2 : Bool × Fr} (h1 : x1 = mop w (fMul X Y)) (h2 : x2 = mop x1.1 (fAdd a x1.2)) : x2 = mop w ((fMul X Y).bind (fAdd a)) := by
  rw [h2, h1, mop_bw]
theorem ta_WF {X Y a z : Fr} (h : (fMul X Y).bind (fAdd a) = some z) : WF z := by
  cases ht : fMul X Y with
  | none => rw [ht] at h; cases h
  | some y => rw [ht] at h; exact fAdd_WF h
set_option maxHeartbeats 4000000 in
set_option maxRecDepth 20000 in
theorem c_X7_goBack (l : Launch) (G : GT) (rg : RgT) (I : II) (L : LL) (n : Nat) (E : ES) (V0 : Nat → Fr) (hms : isMS rg) (hn : I 0 0 = nI n) (hn4 : n < 5) (hw : I 0 7 = b2i false) (h8 : I 0 8 = b2i false) (hS : I 0 14 = nI (eS E)) (hS5 : eS E ≤ 5) (hX : RelX n I L E) (hEW : EW n E) (hV : ∀ j, j < 5 → (L 19 j, L 20 j) = V0 j) (hVW : ∀ j, j < 5 → WF (V0 j)) : CtV l yX7_goBack cX7_goBack 8 none 4 G rg I L [.ref (gB G + 0)] (fun I1 L1 => ∃ w1 V, setW I w1 = I1 ∧ GBi n E (gbO n E (eS E) V0) L L1 w1 V 0) := by
  refine ctV_of [some (.ref (gB G + 0)), none, none, none, none, none, none, none] rfl (Nat.le_of_ble_eq_true rfl) (by decide) ?_
  intro p e s m args below meth c C hr
  obtain ⟨o0, a1, a2, a3, a4, a5, a6, a7, a8, a9, a10, a11, a12, a13, a14, a15, a16, a17, a18, a19, a20, a21, a22, a23, a24, a25, a26⟩ := id hms
  have lp : ∀ (fuel t : Nat) (w1 : Bool) (L1 : LL) (V : Nat → Fr), t < fuel → t ≤ eS E → GBi n E (gbO n E (eS E) V0) L L1 w1 V t → J p l e (rmD 4) s m args below meth c (MQ below (QV G rg (fun I1 L1 => ∃ w1 V, setW I w1 = I1 ∧ GBi n E (gbO n E (eS E) V0) L L1 w1 V 0)) args s 0 0 (rg_A G rg)) 8 G rg 0 0 (setW I w1) L1 7 [some (.ref (gB G + 0)), some (.int (dI t)), none, none, none, none, none, none] [] := by
    intro fuel
    induction fuel with
    | zero => intro t w1 L1 V h1; exfalso; omega
    | succ fuel ih_lp =>
      intro t w1 L1 V h1 h2 hG
      cases t with
      | zero =>
        refine j_iload_n C dX7_goBack_7 rfl rfl ?_
        refine j_if_lt (tgt := 175) C dX7_goBack_8 (by decide) (fun h_8 => ?_) (fun h_8 => ?_)
        · exact j_vret C hr dX7_goBack_175 ⟨w1, V, rfl, hG⟩
        · exact absurd (show dI 0 < 0 by decide) h_8
      | succ s0 =>
        rw [dI_s]
        have hs0 : s0 < eS E := by omega
        refine j_iload_n C dX7_goBack_7 rfl rfl ?_
        refine j_if_lt (tgt := 175) C dX7_goBack_8 (by decide) (fun h_8 => ?_) (fun h_8 => ?_)
        · exact absurd h_8 (dI_lt (by omega))
        · refine j_aload_n C dX7_goBack_11 rfl rfl ?_
          refine g_cvI C vc_X7_154 (c_X7_isWrong l G rg _ _ w1 hms (setW_7 _ _) ((setW_k _ _ (by decide)).trans h8)) ⟨Nat.le_of_ble_eq_true rfl, Nat.le_of_ble_eq_true rfl⟩ (o0) rfl rfl (Nat.le_of_ble_eq_true rfl) ⟨Nat.zero_le _, Nat.zero_le _⟩ dX7_goBack_12 (fun r_12 I_12 L_12 p_12 => ?_)
          obtain ⟨rfl, rfl, rfl⟩ := p_12
          first | refine n_if_ne (tgt := 175) C dX7_goBack_15 (by decide) (fun h_15 => ?_) (fun h_15 => ?_) | refine j_if_ne (tgt := 175) C dX7_goBack_15 (by decide) (fun h_15 => ?_) (fun h_15 => ?_)
          · exact j_vret C hr dX7_goBack_175 (⟨w1, V, rfl, hG.1, hG.2.1, fun q => by rw [h_15] at q; cases q⟩)
          · refine j_lconst (v := 0) C dX7_goBack_18 (by decide) ?_
            refine j_lstore_n C dX7_goBack_19 rfl (by decide) ?_
            refine j_lconst (v := 1) C dX7_goBack_20 (by decide) ?_
            refine j_lstore C dX7_goBack_21 (by decide) ?_
            refine j_iconst (v := nI 0) C dX7_goBack_23 (by decide) ?_
            refine j_istore C dX7_goBack_24 (by decide) ?_
            subst h_15
            have lq : ∀ (fuel : Nat) (o : Nat) (w2 : Bool) (L2 : LL) (a : Fr), n + 1 < fuel + o → o ≤ n + 1 → (∀ q, q ≠ 0 → L2 q = L1 q) → BI false w2 a (fun a => (smO (eT E s0) (eN E s0) V n (n + 1 - o) a).bind (fun z => gbO n E s0 (va_up V (eP E s0) (ngF z)))) (gbO n E (eS E) V0) → J p l e (rmD 4) s m args below meth c (MQ below (QV G rg (fun I1 L1 => ∃ w1 V, setW I w1 = I1 ∧ GBi n E (gbO n E (eS E) V0) L L1 w1 V 0)) args s 0 0 (rg_A G rg)) 8 G rg 0 0 (setW I w2) L2 26 [some (.ref (gB G + 0)), some (.int (nI s0)), some (.long a.1), none, some (.long a.2), none, some (.int (nI o)), none] [] := by
              intro fuel
              induction fuel with
              | zero => intro o w2 L2 a q1 q2 hL hB; exfalso; omega
              | succ fuel ih_lq =>
                intro o w2 L2 a q1 q2 hL hB
                refine j_iload C dX7_goBack_26 rfl ?_
                refine j_aload_n C dX7_goBack_28 rfl rfl ?_
                refine g_getI C (o0) fl_X7_7 (by rfl) dX7_goBack_29 ?_
                refine t_i (y := nI n) ((setW_k _ _ (by decide)).trans hn) ?_
                first | refine n_icmp_gt (tgt := 130) C (by omega) (by omega) dX7_goBack_32 (by decide) (fun h_32 => ?_) (fun h_32 => ?_) | refine j_icmp_gt (tgt := 130) C dX7_goBack_32 (by decide) (fun h_32 => ?_) (fun h_32 => ?_)
                · refine j_aload_n C dX7_goBack_130 rfl rfl ?_
                  refine j_lconst (v := 0) C dX7_goBack_131 (by decide) ?_
                  refine j_lconst (v := 1) C dX7_goBack_132 (by decide) ?_
                  refine j_lload_n C dX7_goBack_133 rfl rfl ?_
                  refine j_lload C dX7_goBack_134 rfl ?_
                  refine g_cvV C vc_X7_182 (c_X7_difference l G rg _ _ w2 _ _ _ _ hms (setW_7 _ _) ((setW_k _ _ (by decide)).trans h8) (fun _ => WF_01) (fun q => (hB.2 q).2.1)) ⟨Nat.le_of_ble_eq_true rfl, Nat.le_of_ble_eq_true rfl⟩ (o0) rfl rfl (Nat.le_of_ble_eq_true rfl) ⟨Nat.zero_le _, Nat.zero_le _⟩ dX7_goBack_136 (fun I_136 L_136 p_136 => ?_)
                  obtain ⟨e1, e2⟩ := p_136
                  rw [setW_2] at e1
                  try rw [setU_2] at e2
                  obtain ⟨x3, hx3⟩ : ∃ x, x = mop w2 (fSub (0, 1) a) := ⟨_, rfl⟩
                  change setW I (mop w2 (fSub (0, 1) a)).1 = _ at e1
                  change setU L2 (mop w2 (fSub (0, 1) a)).2 = _ at e2
                  rw [← hx3] at e1 e2
                  subst e1
                  subst e2
                  have hp5 : eP E s0 < 5 := Nat.lt_of_le_of_lt (hEW.2 s0 hs0).1 hn4
                  refine j_aload_n C dX7_goBack_139 rfl rfl ?_
                  refine g_getR C (o0) fl_X7_70 (by rfl) dX7_goBack_140 ?_
                  refine j_aload_n C dX7_goBack_143 rfl rfl ?_
                  refine g_getR C (o0) fl_X7_37 (by rfl) dX7_goBack_144 ?_
                  refine j_iload_n C dX7_goBack_147 rfl rfl ?_
                  refine g_iald C (a8) (by omega) (by decide) dX7_goBack_148 ?_
                  refine t_i ((congrFun (setW_q _ _ (by decide)) _).trans (hX.2 s0 hs0).1) ?_
                  refine j_aload_n C dX7_goBack_149 rfl rfl ?_
                  refine g_getL C (o0) fl_X7_147 (by rfl) dX7_goBack_150 ?_
                  refine t_l (setU_5 _ _) ?_
                  refine g_last C (a19) (hp5) (by decide) dX7_goBack_153 ?_
                  refine j_aload_n C dX7_goBack_154 rfl rfl ?_
                  refine g_getR C (o0) fl_X7_73 (by rfl) dX7_goBack_155 ?_
                  refine j_aload_n C dX7_goBack_158 rfl rfl ?_
                  refine g_getR C (o0) fl_X7_37 (by rfl) dX7_goBack_159 ?_
                  refine j_iload_n C dX7_goBack_162 rfl rfl ?_
                  refine g_iald C (a8) (by omega) (by decide) dX7_goBack_163 ?_
                  refine t_i ((congrFun (setW_q _ _ (by decide)) _).trans (hX.2 s0 hs0).1) ?_
                  refine j_aload_n C dX7_goBack_164 rfl rfl ?_
                  refine g_getL C (o0) fl_X7_151 (by rfl) dX7_goBack_165 ?_
                  refine t_l up_19 ?_
                  refine g_last C (a20) (hp5) (by decide) dX7_goBack_168 ?_
                  refine j_iinc C dX7_goBack_169 rfl (dI_c s0) (by decide) ?_
                  refine j_goto (tgt := 7) C dX7_goBack_172 (by decide) ?_
                  refine j_rm 6 ?_
                  refine j_rm 4 ?_
                  refine j_rm 2 ?_
                  exact ih_lp s0 x3.1 _ (va_up V (eP E s0) (ngF a)) (by omega) (by omega) (GB_s hG hL (BI_k hB (fun _ _ => by show (smO (eT E s0) (eN E s0) V n (n + 1 - o) a).bind _ = _; rw [show n + 1 - o = 0 by omega]; rfl)) hx3)
                · refine j_aload_n C dX7_goBack_35 rfl rfl ?_
                  refine j_iload C dX7_goBack_36 rfl ?_
                  refine g_cvI C vc_X7_171 (c_X7_inOrder l G rg _ _ n _ hms ((setW_k _ _ (by decide)).trans hn) hn4 (by omega)) ⟨Nat.le_of_ble_eq_true rfl, Nat.le_of_ble_eq_true rfl⟩ (o0) rfl rfl (Nat.le_of_ble_eq_true rfl) ⟨Nat.zero_le _, Nat.zero_le _⟩ dX7_goBack_38 (fun r_38 I_38 L_38 p_38 => ?_)
                  obtain ⟨rfl, rfl, rfl⟩ := p_38
                  have hj := ordn_le n o
                  have l11 : (L2 11 (5 * s0 + ordn n o), L2 12 (5 * s0 + ordn n o)) = eN E s0 (ordn n o) := by rw [hL 11 (by decide), hL 12 (by decide), hG.1 11 (by decide) (by decide) (by decide), hG.1 12 (by decide) (by decide) (by decide)]; exact (hX.2 s0 hs0).2.2.1 _ (by omega)
                  have l19 : (L2 19 (ordn n o), L2 20 (ordn n o)) = V (ordn n o) := by rw [hL 19 (by decide), hL 20 (by decide)]; exact (hG.2.2 rfl).1 _ (by omega)
                  refine j_istore C dX7_goBack_41 (by decide) ?_
                  refine j_aload_n C dX7_goBack_43 rfl rfl ?_
                  refine g_getR C (o0) fl_X7_52 (by rfl) dX7_goBack_44 ?_
                  refine j_iload_n C dX7_goBack_47 rfl rfl ?_
                  refine g_iald C (a13) (by omega) (by decide) dX7_goBack_48 ?_
                  refine t_i (congrFun (setW_q _ _ (by decide)) _) ?_
                  refine j_iload C dX7_goBack_49 rfl ?_
                  refine j_ishr C dX7_goBack_51 ?_
                  refine j_iconst (v := nI 1) C dX7_goBack_52 (by decide) ?_
                  refine j_iand C dX7_goBack_53 ?_
                  refine t_i ((bt_val (by omega)).trans (congrArg b2i ((hX.2 s0 hs0).2.2.2 _ hj))) ?_
                  refine j_iconst (v := nI 1) C dX7_goBack_54 (by decide) ?_
                  refine j_icmp_ne (tgt := 124) C dX7_goBack_55 (by decide) (fun h_55 => ?_) (fun h_55 => ?_)
                  · first | refine n_iinc (n := 1) C dX7_goBack_124 rfl (by decide) ?_ | refine j_iinc C dX7_goBack_124 rfl rfl (by decide) ?_
                    refine j_goto (tgt := 26) C dX7_goBack_127 (by decide) ?_
                    try refine j_rm 7 ?_
                    first
                    | exact ih_lq (o + 1) w2 L2 a (by omega) (by omega) hL (BI_k hB (fun _ _ => by show (smO (eT E s0) (eN E s0) V n (n + 1 - o) a).bind _ = _; rw [smO_f (by omega) (Bool.eq_false_iff.mpr (fun z => h_55 (b2i_1.mpr z)))]))
                    | exact ih_lq (o + 1) x2.1 _ x2.2 (by omega) (by omega) (fun q q0 => by rw [setU_q _ _ q0]; exact hL q q0) (BI_s hB (y := fun a => (fMul (eN E s0 (ordn n o)) (V (ordn n o))).bind (fAdd a)) (mop_2 hx1 hx2) (fun z hz => ta_WF hz) (by show (smO (eT E s0) (eN E s0) V n (n + 1 - o) a).bind _ = _; rw [smO_t (by omega) (b2i_1.mp h_55)]; exact bb_1))
                  · refine j_aload_n C dX7_goBack_58 rfl rfl ?_
                    refine j_aload_n C dX7_goBack_59 rfl rfl ?_
                    refine g_getR C (o0) fl_X7_46 (by rfl) dX7_goBack_60 ?_
                    refine j_iconst (v := nI 5) C dX7_goBack_63 (by decide) ?_
                    refine j_iload_n C dX7_goBack_64 rfl rfl ?_
                    first | refine n_imul C dX7_goBack_65 ?_ | refine j_imul C dX7_goBack_65 ?_
                    refine j_iload C dX7_goBack_66 rfl ?_
                    first | refine n_iadd C dX7_goBack_68 ?_ | refine j_iadd C dX7_goBack_68 ?_
                    refine g_lald C (a11) (by omega) (by decide) dX7_goBack_69 ?_
                    refine t_l (congrArg Prod.fst l11) ?_
                    refine j_aload_n C dX7_goBack_70 rfl rfl ?_
                    refine g_getR C (o0) fl_X7_49 (by rfl) dX7_goBack_71 ?_
                    refine j_iconst (v := nI 5) C dX7_goBack_74 (by decide) ?_
                    refine j_iload_n C dX7_goBack_75 rfl rfl ?_
                    first | refine n_imul C dX7_goBack_76 ?_ | refine j_imul C dX7_goBack_76 ?_
                    refine j_iload C dX7_goBack_77 rfl ?_
                    first | refine n_iadd C dX7_goBack_79 ?_ | refine j_iadd C dX7_goBack_79 ?_
                    refine g_lald C (a12) (by omega) (by decide) dX7_goBack_80 ?_
                    refine t_l (congrArg Prod.snd l11) ?_
                    refine j_aload_n C dX7_goBack_81 rfl rfl ?_
                    refine g_getR C (o0) fl_X7_70 (by rfl) dX7_goBack_82 ?_
                    refine j_iload C dX7_goBack_85 rfl ?_
                    refine g_lald C (a19) (by omega) (by decide) dX7_goBack_87 ?_
                    refine t_l (congrArg Prod.fst l19) ?_
                    refine j_aload_n C dX7_goBack_88 rfl rfl ?_
                    refine g_getR C (o0) fl_X7_73 (by rfl) dX7_goBack_89 ?_
                    refine j_iload C dX7_goBack_92 rfl ?_
                    refine g_lald C (a20) (by omega) (by decide) dX7_goBack_94 ?_
                    refine t_l (congrArg Prod.snd l19) ?_
                    refine g_cvV C vc_X7_179 (c_X7_product l G rg _ _ w2 _ _ _ _ hms (setW_7 _ _) ((setW_k _ _ (by decide)).trans h8) (fun _ => ((hEW.2 s0 hs0).2.2 _).1) (fun _ => (hG.2.2 rfl).2.1 _ (by omega))) ⟨Nat.le_of_ble_eq_true rfl, Nat.le_of_ble_eq_true rfl⟩ (o0) rfl rfl (Nat.le_of_ble_eq_true rfl) ⟨Nat.zero_le _, Nat.zero_le _⟩ dX7_goBack_95 (fun I_95 L_95 p_95 => ?_)
                    obtain ⟨e1, e2⟩ := p_95
                    rw [setW_2] at e1
                    try rw [setU_2] at e2
                    obtain ⟨x1, hx1⟩ : ∃ x, x = mop w2 (fMul (eN E s0 (ordn n o)) (V (ordn n o))) := ⟨_, rfl⟩
                    change setW I (mop w2 (fMul (eN E s0 (ordn n o)) (V (ordn n o)))).1 = _ at e1
                    change setU L2 (mop w2 (fMul (eN E s0 (ordn n o)) (V (ordn n o)))).2 = _ at e2
                    rw [← hx1] at e1 e2
                    subst e1
                    subst e2
                    have k1 : x1.1 = false → w2 = false ∧ WF x1.2 := fun q => mop_k1 hx1 (fun _ z => fMul_WF z) q
                    refine j_aload_n C dX7_goBack_98 rfl rfl ?_
                    refine j_lload_n C dX7_goBack_99 rfl rfl ?_
                    refine j_lload C dX7_goBack_100 rfl ?_
                    refine j_aload_n C dX7_goBack_102 rfl rfl ?_
                    refine g_getL C (o0) fl_X7_147 (by rfl) dX7_goBack_103 ?_
                    refine t_l (setU_5 _ _) ?_
                    refine j_aload_n C dX7_goBack_106 rfl rfl ?_
                    refine g_getL C (o0) fl_X7_151 (by rfl) dX7_goBack_107 ?_
                    refine t_l (setU_6 _ _) ?_
                    refine g_cvV C vc_X7_224 (c_X7_sum l G rg _ _ x1.1 _ _ _ _ hms (setW_7 _ _) ((setW_k _ _ (by decide)).trans h8) (fun q => (hB.2 (k1 q).1).2.1) (fun q => (k1 q).2)) ⟨Nat.le_of_ble_eq_true rfl, Nat.le_of_ble_eq_true rfl⟩ (o0) rfl rfl (Nat.le_of_ble_eq_true rfl) ⟨Nat.zero_le _, Nat.zero_le _⟩ dX7_goBack_110 (fun I_110 L_110 p_110 => ?_)
                    obtain ⟨e1, e2⟩ := p_110
                    rw [setW_2] at e1
                    try rw [setU_2] at e2
                    obtain ⟨x2, hx2⟩ : ∃ x, x = mop x1.1 (fAdd a x1.2) := ⟨_, rfl⟩
                    change setW I (mop x1.1 (fAdd a x1.2)).1 = _ at e1
                    change setU L2 (mop x1.1 (fAdd a x1.2)).2 = _ at e2
                    rw [← hx2] at e1 e2
                    subst e1
                    subst e2
                    refine j_aload_n C dX7_goBack_113 rfl rfl ?_
                    refine g_getL C (o0) fl_X7_147 (by rfl) dX7_goBack_114 ?_
                    refine t_l (setU_5 _ _) ?_
                    refine j_lstore_n C dX7_goBack_117 rfl (by decide) ?_
                    refine j_aload_n C dX7_goBack_118 rfl rfl ?_
                    refine g_getL C (o0) fl_X7_151 (by rfl) dX7_goBack_119 ?_
                    refine t_l (setU_6 _ _) ?_
                    refine j_lstore C dX7_goBack_122 (by decide) ?_
                    first | refine n_iinc (n := 1) C dX7_goBack_124 rfl (by decide) ?_ | refine j_iinc C dX7_goBack_124 rfl rfl (by decide) ?_
                    refine j_goto (tgt := 26) C dX7_goBack_127 (by decide) ?_
                    try refine j_rm 7 ?_
                    first
                    | exact ih_lq (o + 1) w2 L2 a (by omega) (by omega) hL (BI_k hB (fun _ _ => by show (smO (eT E s0) (eN E s0) V n (n + 1 - o) a).bind _ = _; rw [smO_f (by omega) (Bool.eq_false_iff.mpr (fun z => h_55 (b2i_1.mpr z)))]))
                    | exact ih_lq (o + 1) x2.1 _ x2.2 (by omega) (by omega) (fun q q0 => by rw [setU_q _ _ q0]; exact hL q q0) (BI_s hB (y := fun a => (fMul (eN E s0 (ordn n o)) (V (ordn n o))).bind (fAdd a)) (mop_2 hx1 hx2) (fun z hz => ta_WF hz) (by show (smO (eT E s0) (eN E s0) V n (n + 1 - o) a).bind _ = _; rw [smO_t (by omega) (b2i_1.mp h_55)]; exact bb_1))
            exact lq (n + 2) 0 false L1 (0, 1) (by omega) (by omega) (fun _ _ => rfl) ⟨fun q => (by cases q), fun _ => ⟨rfl, WF_01, by rw [Nat.sub_zero]; exact (hG.2.2 rfl).2.2⟩⟩
  refine j_aload_n C dX7_goBack_0 rfl rfl ?_
  refine g_getI C (o0) fl_X7_109 (by rfl) dX7_goBack_1 ?_
  refine t_i hS ?_
  refine j_iconst (v := nI 1) C dX7_goBack_4 (by decide) ?_
  refine j_isub C dX7_goBack_5 ?_
  refine j_istore_n C dX7_goBack_6 rfl (by decide) ?_
  refine t_IL (setW_s hw).symm rfl ?_
  exact lp (eS E + 1) (eS E) false L V0 (by omega) (by omega) ⟨fun _ _ _ _ => rfl, (fun q => by cases q), fun _ => ⟨hV, hVW, rfl⟩⟩
