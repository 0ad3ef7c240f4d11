/-! ===== the model: value ===== -/
theorem wr_s (a b f x y : Int64) : a + b * x + f * x * y = a + (b + f * y) * x := by
  rw [Int64.add_mul, Int64.mul_assoc, Int64.mul_comm x y, ← Int64.mul_assoc, Int64.add_assoc]
theorem wr_0 (a x : Int64) : a = a + 0 * x := by rw [Int64.zero_mul, Int64.add_zero]
theorem ix_le {i j : Nat} (h : i ≤ j) : ix i j = i * 5 + j := by unfold ix; rw [Nat.min_eq_left h, Nat.max_eq_right h]
set_option maxHeartbeats 4000000 in
set_option maxRecDepth 20000 in
theorem c_X7_worth (l : Launch) (G : GT) (rg : RgT) (I : II) (L : LL) (n fm : Nat) (f : Nat → Int32) (x : Nat → Int64) (hms : isMS rg) (hn : I 0 0 = nI n) (hn4 : n < 5) (hfm : fm < 12) (hf : ∀ k, k < 25 → I 1 (25 * fm + k) = f k) (hx : ∀ k, k ≤ n → (I 2 k).toInt64 = x k) : CtL l yX7_worth cX7_worth 6 (some FieldType.long) 2 G rg I L [.ref (gB G + 0), .int (nI fm)] (fun r I1 L1 => r = inI f x n (n + 1) 0 ∧ I = I1 ∧ L = L1) := by
  refine ctL_of [some (.ref (gB G + 0)), some (.int (nI fm)), none, none, none, none] rfl (Nat.le_of_ble_eq_true rfl) (by decide) ?_
  intro p e s m args below meth c C hr
  obtain ⟨o0, a1, a2, a3, a4, a5, a6, a7, a8, a9, a10, a11, a12, a13, a14, a15, a16, a17, a18, a19, a20, a21, a22, a23, a24, a25, a26⟩ := id hms
  have lp : ∀ (fuel : Nat) (i : Nat) (a : Int64), n + 1 < fuel + i → i ≤ n + 1 → inI f x n (n + 1 - i) a = inI f x n (n + 1) 0 → J p l e (rmD 2) s m args below meth c (MQ below (QL G rg (fun r I1 L1 => r = inI f x n (n + 1) 0 ∧ I = I1 ∧ L = L1)) args s 0 0 (rg_A G rg)) 6 G rg 0 0 I L 5 [some (.ref (gB G + 0)), some (.int (nI fm)), some (.long a), none, some (.int (nI i)), none] [] := by
    intro fuel
    induction fuel with
    | zero => intro i a h1 h2 hT; exfalso; omega
    | succ fuel ih_lp =>
      intro i a h1 h2 hT
      refine j_iload C dX7_worth_5 rfl ?_
      refine j_aload_n C dX7_worth_7 rfl rfl ?_
      refine g_getI C (o0) fl_X7_7 (by rfl) dX7_worth_8 ?_
      refine t_i hn ?_
      first | refine n_icmp_gt (tgt := 79) C (by omega) (by omega) dX7_worth_11 (by decide) (fun h_11 => ?_) (fun h_11 => ?_) | refine j_icmp_gt (tgt := 79) C dX7_worth_11 (by decide) (fun h_11 => ?_) (fun h_11 => ?_)
      · refine j_lload_n C dX7_worth_79 rfl rfl ?_
        exact j_lret C hr dX7_worth_80 (⟨by rw [← hT, show n + 1 - i = 0 by omega]; rfl, rfl, rfl⟩)
      · refine j_iload C dX7_worth_14 rfl ?_
        refine j_istore C dX7_worth_16 (by decide) ?_
        have lq : ∀ (fuel : Nat) (j : Nat) (s0 b : Int64), n + 1 < fuel + j → i ≤ j → j ≤ n + 1 → s0 = a + b * x i → inI f x n (n + 1 - (i + 1)) (a + inJ f x n i (n + 1 - j) b * x i) = inI f x n (n + 1) 0 → J p l e (rmD 2) s m args below meth c (MQ below (QL G rg (fun r I1 L1 => r = inI f x n (n + 1) 0 ∧ I = I1 ∧ L = L1)) args s 0 0 (rg_A G rg)) 6 G rg 0 0 I L 18 [some (.ref (gB G + 0)), some (.int (nI fm)), some (.long s0), none, some (.int (nI i)), some (.int (nI j))] [] := by
          intro fuel
          induction fuel with
          | zero => intro j s0 b q1 q2 q3 hs hB; exfalso; omega
          | succ fuel ih_lq =>
            intro j s0 b q1 q2 q3 hs hB
            refine j_iload C dX7_worth_18 rfl ?_
            refine j_aload_n C dX7_worth_20 rfl rfl ?_
            refine g_getI C (o0) fl_X7_7 (by rfl) dX7_worth_21 ?_
            refine t_i hn ?_
            first | refine n_icmp_gt (tgt := 73) C (by omega) (by omega) dX7_worth_24 (by decide) (fun h_24 => ?_) (fun h_24 => ?_) | refine j_icmp_gt (tgt := 73) C dX7_worth_24 (by decide) (fun h_24 => ?_) (fun h_24 => ?_)
            · first | refine n_iinc (n := 1) C dX7_worth_73 rfl (by decide) ?_ | refine j_iinc C dX7_worth_73 rfl rfl (by decide) ?_
              refine j_goto (tgt := 5) C dX7_worth_76 (by decide) ?_
              refine j_rm 5 ?_
              exact ih_lp (i + 1) s0 (by omega) (by omega) (by rw [← hB, hs, show n + 1 - j = 0 by omega]; rfl)
            · refine j_lload_n C dX7_worth_27 rfl rfl ?_
              refine j_aload_n C dX7_worth_28 rfl rfl ?_
              refine g_getR C (o0) fl_X7_13 (by rfl) dX7_worth_29 ?_
              refine j_bipush (v := nI 25) C dX7_worth_32 (by decide) ?_
              refine j_iload_n C dX7_worth_34 rfl rfl ?_
              first | refine n_imul C dX7_worth_35 ?_ | refine j_imul C dX7_worth_35 ?_
              refine j_aload_n C dX7_worth_36 rfl rfl ?_
              refine j_iload C dX7_worth_37 rfl ?_
              refine j_iload C dX7_worth_39 rfl ?_
              refine g_cvI C vc_X7_125 (c_X7_at l G rg _ _ _ _ (by omega) (by omega)) ⟨Nat.le_of_ble_eq_true rfl, Nat.le_of_ble_eq_true rfl⟩ (o0) rfl rfl (Nat.le_of_ble_eq_true rfl) ⟨Nat.zero_le _, Nat.zero_le _⟩ dX7_worth_41 (fun r_41 I_41 L_41 p_41 => ?_)
              obtain ⟨rfl, rfl, rfl⟩ := p_41
              have hix := ix_lt (show i < 5 by omega) (show j < 5 by omega)
              first | refine n_iadd C dX7_worth_44 ?_ | refine j_iadd C dX7_worth_44 ?_
              refine g_iald C (a1) (by omega) (by decide) dX7_worth_45 ?_
              refine t_i (hf _ hix) ?_
              refine j_i2l C dX7_worth_46 ?_
              refine j_aload_n C dX7_worth_47 rfl rfl ?_
              refine g_getR C (o0) fl_X7_17 (by rfl) dX7_worth_48 ?_
              refine j_iload C dX7_worth_51 rfl ?_
              refine g_iald C (a2) (by omega) (by decide) dX7_worth_53 ?_
              refine j_i2l C dX7_worth_54 ?_
              refine t_l (hx i (by omega)) ?_
              refine j_lmul C dX7_worth_55 ?_
              refine j_aload_n C dX7_worth_56 rfl rfl ?_
              refine g_getR C (o0) fl_X7_17 (by rfl) dX7_worth_57 ?_
              refine j_iload C dX7_worth_60 rfl ?_
              refine g_iald C (a2) (by omega) (by decide) dX7_worth_62 ?_
              refine j_i2l C dX7_worth_63 ?_
              refine t_l (hx j (by omega)) ?_
              refine j_lmul C dX7_worth_64 ?_
              refine j_ladd C dX7_worth_65 ?_
              refine j_lstore_n C dX7_worth_66 rfl (by decide) ?_
              first | refine n_iinc (n := 1) C dX7_worth_67 rfl (by decide) ?_ | refine j_iinc C dX7_worth_67 rfl rfl (by decide) ?_
              refine j_goto (tgt := 18) C dX7_worth_70 (by decide) ?_
              exact ih_lq (j + 1) _ (b + (f (ix i j)).toInt64 * x j) (by omega) (by omega) (by omega) (by rw [hs]; exact wr_s _ _ _ _ _) (by rw [← hB, inJ_s (j := j) (by omega), ix_le (by omega)])
        exact lq (n + 2) i a 0 (by omega) (by omega) (by omega) (wr_0 _ _) (by rw [← hT]; exact (inI_s (by omega)).symm)
  refine j_lconst (v := 0) C dX7_worth_0 (by decide) ?_
  refine j_lstore_n C dX7_worth_1 rfl (by decide) ?_
  refine j_iconst (v := nI 0) C dX7_worth_2 (by decide) ?_
  refine j_istore C dX7_worth_3 (by decide) ?_
  exact lp (n + 2) 0 0 (by omega) (by omega) (by rw [Nat.sub_zero])
