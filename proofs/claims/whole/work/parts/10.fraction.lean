set_option maxHeartbeats 4000000 in
set_option maxRecDepth 20000 in
theorem c_X2_commonDivisor (l : Launch) (G : GT) (rg : RgT) (I : II) (L : LL) (a b : Int64) (ha : a ≠ LEA) (hb : b ≠ LEA) : CtL l yX2_commonDivisor cX2_commonDivisor 11 (some FieldType.long) 1 G rg I L [.long a, .long b] (fun r I1 L1 => r = lN (gcdN a b) ∧ I = I1 ∧ L = L1) := by
  refine ctL_of [some (.long a), none, some (.long b), none, none, none, none, none, none, none, none] rfl (Nat.le_of_ble_eq_true rfl) (by decide) ?_
  intro p e s m args below meth c C hr
  have loop : ∀ (n i x y : Nat), 200 < n + i → i ≤ 200 → euI i x y → Nat.gcd x y = gcdN a b → J p l e (rmD 1) s m args below meth c (MQ below (QL G rg (fun r I1 L1 => r = lN (gcdN a b) ∧ I = I1 ∧ L = L1)) args s 0 0 (rg_A G rg)) 11 G rg 0 0 I L 31 [some (.long a), none, some (.long b), none, some (.long (lN x)), none, some (.long (lN y)), none, some (.int (nI i)), none, none] [] := by
    intro n
    induction n with
    | zero => intro i x y h1 h2; omega
    | succ n ih =>
      intro i x y h1 h2 hinv hg
      refine j_iload C dX2_commonDivisor_31 rfl ?_
      refine j_sipush (v := nI 200) C dX2_commonDivisor_33 (by decide) ?_
      first | refine n_icmp_ge (tgt := 67) C (by omega) (by omega) dX2_commonDivisor_36 (by decide) (fun h_36 => ?_) (fun h_36 => ?_) | refine j_icmp_ge (tgt := 67) C dX2_commonDivisor_36 (by decide) (fun h_36 => ?_) (fun h_36 => ?_)
      · have hy0 : y = 0 := euI_e hinv h_36
        subst hy0
        refine j_lload C dX2_commonDivisor_67 rfl ?_
        exact j_lret C hr dX2_commonDivisor_69 ⟨by rw [← hg, Nat.gcd_zero_right], rfl, rfl⟩
      · refine j_lload C dX2_commonDivisor_39 rfl ?_
        refine j_lconst (v := 0) C dX2_commonDivisor_41 (by decide) ?_
        refine j_lc_eq (tgt := 67) C dX2_commonDivisor_42 dX2_commonDivisor_43 (by decide) (fun h_43 => ?_) (fun h_43 => ?_)
        · have hy0 : y = 0 := lN_0 hinv.2.1 h_43
          subst hy0
          refine j_lload C dX2_commonDivisor_67 rfl ?_
          exact j_lret C hr dX2_commonDivisor_69 ⟨by rw [← hg, Nat.gcd_zero_right], rfl, rfl⟩
        · refine j_lload C dX2_commonDivisor_46 rfl ?_
          refine j_lload C dX2_commonDivisor_48 rfl ?_
          refine j_lrem C dX2_commonDivisor_50 (by assumption) ?_
          have hy0 : y ≠ 0 := fun q => h_43 (by rw [q]; rfl)
          refine t_l (pk_lRem hinv.1 (Nat.pos_of_ne_zero hy0) hinv.2.1) ?_
          refine j_lstore C dX2_commonDivisor_51 (by decide) ?_
          refine j_lload C dX2_commonDivisor_53 rfl ?_
          refine j_lstore C dX2_commonDivisor_55 (by decide) ?_
          refine j_lload C dX2_commonDivisor_57 rfl ?_
          refine j_lstore C dX2_commonDivisor_59 (by decide) ?_
          first | refine n_iinc (n := 1) C dX2_commonDivisor_61 rfl (by decide) ?_ | refine j_iinc C dX2_commonDivisor_61 rfl rfl (by decide) ?_
          refine j_goto (tgt := 31) C dX2_commonDivisor_64 (by decide) ?_
          refine j_rm 9 ?_
          exact ih (i + 1) y (x % y) (by omega) (by omega) (euI_s hinv hy0) (gcd_s hg)
  refine j_lload_n C dX2_commonDivisor_0 rfl rfl ?_
  refine j_lconst (v := 0) C dX2_commonDivisor_1 (by decide) ?_
  refine j_lc_ge (tgt := 11) C dX2_commonDivisor_2 dX2_commonDivisor_3 (by decide) (fun h_3 => ?_) (fun h_3 => ?_)
  · refine j_lload_n C dX2_commonDivisor_11 rfl rfl ?_
    refine t_l (abs_pos ha h_3) ?_
    refine j_lstore C dX2_commonDivisor_12 (by decide) ?_
    refine j_lload_n C dX2_commonDivisor_14 rfl rfl ?_
    refine j_lconst (v := 0) C dX2_commonDivisor_15 (by decide) ?_
    refine j_lc_ge (tgt := 25) C dX2_commonDivisor_16 dX2_commonDivisor_17 (by decide) (fun h_17 => ?_) (fun h_17 => ?_)
    · refine j_lload_n C dX2_commonDivisor_25 rfl rfl ?_
      refine t_l (abs_pos hb h_17) ?_
      refine j_lstore C dX2_commonDivisor_26 (by decide) ?_
      refine j_iconst (v := nI 0) C dX2_commonDivisor_28 (by decide) ?_
      refine j_istore C dX2_commonDivisor_29 (by decide) ?_
      exact loop 201 0 (absN a) (absN b) (by omega) (by omega) (euI_0 (absN_lt ha) (absN_lt hb)) rfl
    · refine j_lload_n C dX2_commonDivisor_20 rfl rfl ?_
      refine j_lneg C dX2_commonDivisor_21 ?_
      refine t_l (abs_neg hb h_17) ?_
      refine j_goto (tgt := 26) C dX2_commonDivisor_22 (by decide) ?_
      refine j_lstore C dX2_commonDivisor_26 (by decide) ?_
      refine j_iconst (v := nI 0) C dX2_commonDivisor_28 (by decide) ?_
      refine j_istore C dX2_commonDivisor_29 (by decide) ?_
      exact loop 201 0 (absN a) (absN b) (by omega) (by omega) (euI_0 (absN_lt ha) (absN_lt hb)) rfl
  · refine j_lload_n C dX2_commonDivisor_6 rfl rfl ?_
    refine j_lneg C dX2_commonDivisor_7 ?_
    refine t_l (abs_neg ha h_3) ?_
    refine j_goto (tgt := 12) C dX2_commonDivisor_8 (by decide) ?_
    refine j_lstore C dX2_commonDivisor_12 (by decide) ?_
    refine j_lload_n C dX2_commonDivisor_14 rfl rfl ?_
    refine j_lconst (v := 0) C dX2_commonDivisor_15 (by decide) ?_
    refine j_lc_ge (tgt := 25) C dX2_commonDivisor_16 dX2_commonDivisor_17 (by decide) (fun h_17 => ?_) (fun h_17 => ?_)
    · refine j_lload_n C dX2_commonDivisor_25 rfl rfl ?_
      refine t_l (abs_pos hb h_17) ?_
      refine j_lstore C dX2_commonDivisor_26 (by decide) ?_
      refine j_iconst (v := nI 0) C dX2_commonDivisor_28 (by decide) ?_
      refine j_istore C dX2_commonDivisor_29 (by decide) ?_
      exact loop 201 0 (absN a) (absN b) (by omega) (by omega) (euI_0 (absN_lt ha) (absN_lt hb)) rfl
    · refine j_lload_n C dX2_commonDivisor_20 rfl rfl ?_
      refine j_lneg C dX2_commonDivisor_21 ?_
      refine t_l (abs_neg hb h_17) ?_
      refine j_goto (tgt := 26) C dX2_commonDivisor_22 (by decide) ?_
      refine j_lstore C dX2_commonDivisor_26 (by decide) ?_
      refine j_iconst (v := nI 0) C dX2_commonDivisor_28 (by decide) ?_
      refine j_istore C dX2_commonDivisor_29 (by decide) ?_
      exact loop 201 0 (absN a) (absN b) (by omega) (by omega) (euI_0 (absN_lt ha) (absN_lt hb)) rfl

set_option maxHeartbeats 4000000 in
set_option maxRecDepth 20000 in
theorem c_X2_times (l : Launch) (G : GT) (rg : RgT) (I : II) (L : LL) (a b : Int64)  : CtL l yX2_times cX2_times 6 (some FieldType.long) 1 G rg I L [.long a, .long b] (fun r I1 L1 => r = enc (mulO a b) ∧ I = I1 ∧ L = L1) := by
  refine ctL_of [some (.long a), none, some (.long b), none, none, none] rfl (Nat.le_of_ble_eq_true rfl) (by decide) ?_
  intro p e s m args below meth c C hr
  refine j_lload_n C dX2_times_0 rfl rfl ?_
  refine j_lload_n C dX2_times_1 rfl rfl ?_
  refine j_lmul C dX2_times_2 ?_
  refine j_lstore C dX2_times_3 (by decide) ?_
  refine j_lload_n C dX2_times_5 rfl rfl ?_
  refine j_lconst (v := 0) C dX2_times_6 (by decide) ?_
  refine j_lc_eq (tgt := 26) C dX2_times_7 dX2_times_8 (by decide) (fun h_8 => ?_) (fun h_8 => ?_)
  · refine j_lload C dX2_times_26 rfl ?_
    exact j_lret C hr dX2_times_28 (⟨(mul_chk0 h_8).symm, rfl, rfl⟩)
  · refine j_lload C dX2_times_11 rfl ?_
    refine j_lload_n C dX2_times_13 rfl rfl ?_
    refine j_ldiv C dX2_times_14 (h_8) ?_
    refine j_lload_n C dX2_times_15 rfl rfl ?_
    refine j_lc_eq (tgt := 26) C dX2_times_16 dX2_times_17 (by decide) (fun h_17 => ?_) (fun h_17 => ?_)
    · refine j_lload C dX2_times_26 rfl ?_
      exact j_lret C hr dX2_times_28 (⟨(mul_chk h_8 h_17).symm, rfl, rfl⟩)
    · refine j_ldc2 C kc_X2_18 dX2_times_20 ?_
      refine j_goto (tgt := 28) C dX2_times_23 (by decide) ?_
      exact j_lret C hr dX2_times_28 (⟨(mul_chkN h_8 h_17).symm, rfl, rfl⟩)

set_option maxHeartbeats 4000000 in
set_option maxRecDepth 20000 in
theorem c_X2_plus (l : Launch) (G : GT) (rg : RgT) (I : II) (L : LL) (a b : Int64)  : CtL l yX2_plus cX2_plus 7 (some FieldType.long) 1 G rg I L [.long a, .long b] (fun r I1 L1 => r = enc (addOO (decO a) (decO b)) ∧ I = I1 ∧ L = L1) := by
  refine ctL_of [some (.long a), none, some (.long b), none, none, none, none] rfl (Nat.le_of_ble_eq_true rfl) (by decide) ?_
  intro p e s m args below meth c C hr
  refine j_lload_n C dX2_plus_0 rfl rfl ?_
  refine j_lload_n C dX2_plus_1 rfl rfl ?_
  refine j_ladd C dX2_plus_2 ?_
  refine j_lstore C dX2_plus_3 (by decide) ?_
  refine j_lload_n C dX2_plus_5 rfl rfl ?_
  refine j_lload C dX2_plus_6 rfl ?_
  refine j_lxor C dX2_plus_8 ?_
  refine j_lload_n C dX2_plus_9 rfl rfl ?_
  refine j_lload C dX2_plus_10 rfl ?_
  refine j_lxor C dX2_plus_12 ?_
  refine j_land C dX2_plus_13 ?_
  refine j_lconst (v := 0) C dX2_plus_14 (by decide) ?_
  refine j_lc_ge (tgt := 23) C dX2_plus_15 dX2_plus_16 (by decide) (fun h_16 => ?_) (fun h_16 => ?_)
  · refine j_iconst (v := nI 0) C dX2_plus_23 (by decide) ?_
    refine j_istore C dX2_plus_24 (by decide) ?_
    refine j_iload C dX2_plus_26 rfl ?_
    refine j_if_ne (tgt := 47) C dX2_plus_28 (by decide) (fun h_28 => ?_) (fun h_28 => ?_)
    · exact absurd rfl h_28
    · refine j_lload_n C dX2_plus_31 rfl rfl ?_
      refine j_ldc2 C kc_X2_18 dX2_plus_32 ?_
      refine j_lc_eq (tgt := 47) C dX2_plus_35 dX2_plus_36 (by decide) (fun h_36 => ?_) (fun h_36 => ?_)
      · refine j_ldc2 C kc_X2_18 dX2_plus_47 ?_
        refine j_goto (tgt := 55) C dX2_plus_50 (by decide) ?_
        exact j_lret C hr dX2_plus_55 (by first | exact ⟨(plus_bad (Or.inl (by rw [← Int64.not_le]; assumption))).symm, rfl, rfl⟩ | exact ⟨(plus_bad (Or.inr (Or.inl (by assumption)))).symm, rfl, rfl⟩ | exact ⟨(plus_bad (Or.inr (Or.inr (by assumption)))).symm, rfl, rfl⟩ | exact ⟨(plus_ok (by rw [Int64.not_lt]; assumption) (by assumption) (by assumption)).symm, rfl, rfl⟩)
      · refine j_lload_n C dX2_plus_39 rfl rfl ?_
        refine j_ldc2 C kc_X2_18 dX2_plus_40 ?_
        refine j_lc_ne (tgt := 53) C dX2_plus_43 dX2_plus_44 (by decide) (fun h_44 => ?_) (fun h_44 => ?_)
        · refine j_lload C dX2_plus_53 rfl ?_
          exact j_lret C hr dX2_plus_55 (by first | exact ⟨(plus_bad (Or.inl (by rw [← Int64.not_le]; assumption))).symm, rfl, rfl⟩ | exact ⟨(plus_bad (Or.inr (Or.inl (by assumption)))).symm, rfl, rfl⟩ | exact ⟨(plus_bad (Or.inr (Or.inr (by assumption)))).symm, rfl, rfl⟩ | exact ⟨(plus_ok (by rw [Int64.not_lt]; assumption) (by assumption) (by assumption)).symm, rfl, rfl⟩)
        · refine j_ldc2 C kc_X2_18 dX2_plus_47 ?_
          refine j_goto (tgt := 55) C dX2_plus_50 (by decide) ?_
          exact j_lret C hr dX2_plus_55 (by first | exact ⟨(plus_bad (Or.inl (by rw [← Int64.not_le]; assumption))).symm, rfl, rfl⟩ | exact ⟨(plus_bad (Or.inr (Or.inl (by assumption)))).symm, rfl, rfl⟩ | exact ⟨(plus_bad (Or.inr (Or.inr (by assumption)))).symm, rfl, rfl⟩ | exact ⟨(plus_ok (by rw [Int64.not_lt]; assumption) (by assumption) (by assumption)).symm, rfl, rfl⟩)
  · refine j_iconst (v := nI 1) C dX2_plus_19 (by decide) ?_
    refine j_goto (tgt := 24) C dX2_plus_20 (by decide) ?_
    refine j_istore C dX2_plus_24 (by decide) ?_
    refine j_iload C dX2_plus_26 rfl ?_
    refine j_if_ne (tgt := 47) C dX2_plus_28 (by decide) (fun h_28 => ?_) (fun h_28 => ?_)
    · refine j_ldc2 C kc_X2_18 dX2_plus_47 ?_
      refine j_goto (tgt := 55) C dX2_plus_50 (by decide) ?_
      exact j_lret C hr dX2_plus_55 (by first | exact ⟨(plus_bad (Or.inl (by rw [← Int64.not_le]; assumption))).symm, rfl, rfl⟩ | exact ⟨(plus_bad (Or.inr (Or.inl (by assumption)))).symm, rfl, rfl⟩ | exact ⟨(plus_bad (Or.inr (Or.inr (by assumption)))).symm, rfl, rfl⟩ | exact ⟨(plus_ok (by rw [Int64.not_lt]; assumption) (by assumption) (by assumption)).symm, rfl, rfl⟩)
    · exact absurd h_28 (by decide)

set_option maxHeartbeats 4000000 in
set_option maxRecDepth 20000 in
theorem c_X2_minus (l : Launch) (G : GT) (rg : RgT) (I : II) (L : LL) (a b : Int64)  : CtL l yX2_minus cX2_minus 7 (some FieldType.long) 1 G rg I L [.long a, .long b] (fun r I1 L1 => r = enc (subOO (decO a) (decO b)) ∧ I = I1 ∧ L = L1) := by
  refine ctL_of [some (.long a), none, some (.long b), none, none, none, none] rfl (Nat.le_of_ble_eq_true rfl) (by decide) ?_
  intro p e s m args below meth c C hr
  refine j_lload_n C dX2_minus_0 rfl rfl ?_
  refine j_lload_n C dX2_minus_1 rfl rfl ?_
  refine j_lsub C dX2_minus_2 ?_
  refine j_lstore C dX2_minus_3 (by decide) ?_
  refine j_lload_n C dX2_minus_5 rfl rfl ?_
  refine j_lload_n C dX2_minus_6 rfl rfl ?_
  refine j_lxor C dX2_minus_7 ?_
  refine j_lload_n C dX2_minus_8 rfl rfl ?_
  refine j_lload C dX2_minus_9 rfl ?_
  refine j_lxor C dX2_minus_11 ?_
  refine j_land C dX2_minus_12 ?_
  refine j_lconst (v := 0) C dX2_minus_13 (by decide) ?_
  refine j_lc_ge (tgt := 22) C dX2_minus_14 dX2_minus_15 (by decide) (fun h_15 => ?_) (fun h_15 => ?_)
  · refine j_iconst (v := nI 0) C dX2_minus_22 (by decide) ?_
    refine j_istore C dX2_minus_23 (by decide) ?_
    refine j_iload C dX2_minus_25 rfl ?_
    refine j_if_ne (tgt := 46) C dX2_minus_27 (by decide) (fun h_27 => ?_) (fun h_27 => ?_)
    · exact absurd rfl h_27
    · refine j_lload_n C dX2_minus_30 rfl rfl ?_
      refine j_ldc2 C kc_X2_18 dX2_minus_31 ?_
      refine j_lc_eq (tgt := 46) C dX2_minus_34 dX2_minus_35 (by decide) (fun h_35 => ?_) (fun h_35 => ?_)
      · refine j_ldc2 C kc_X2_18 dX2_minus_46 ?_
        refine j_goto (tgt := 54) C dX2_minus_49 (by decide) ?_
        exact j_lret C hr dX2_minus_54 (by first | exact ⟨(minus_bad (Or.inl (by rw [← Int64.not_le]; assumption))).symm, rfl, rfl⟩ | exact ⟨(minus_bad (Or.inr (Or.inl (by assumption)))).symm, rfl, rfl⟩ | exact ⟨(minus_bad (Or.inr (Or.inr (by assumption)))).symm, rfl, rfl⟩ | exact ⟨(minus_ok (by rw [Int64.not_lt]; assumption) (by assumption) (by assumption)).symm, rfl, rfl⟩)
      · refine j_lload_n C dX2_minus_38 rfl rfl ?_
        refine j_ldc2 C kc_X2_18 dX2_minus_39 ?_
        refine j_lc_ne (tgt := 52) C dX2_minus_42 dX2_minus_43 (by decide) (fun h_43 => ?_) (fun h_43 => ?_)
        · refine j_lload C dX2_minus_52 rfl ?_
          exact j_lret C hr dX2_minus_54 (by first | exact ⟨(minus_bad (Or.inl (by rw [← Int64.not_le]; assumption))).symm, rfl, rfl⟩ | exact ⟨(minus_bad (Or.inr (Or.inl (by assumption)))).symm, rfl, rfl⟩ | exact ⟨(minus_bad (Or.inr (Or.inr (by assumption)))).symm, rfl, rfl⟩ | exact ⟨(minus_ok (by rw [Int64.not_lt]; assumption) (by assumption) (by assumption)).symm, rfl, rfl⟩)
        · refine j_ldc2 C kc_X2_18 dX2_minus_46 ?_
          refine j_goto (tgt := 54) C dX2_minus_49 (by decide) ?_
          exact j_lret C hr dX2_minus_54 (by first | exact ⟨(minus_bad (Or.inl (by rw [← Int64.not_le]; assumption))).symm, rfl, rfl⟩ | exact ⟨(minus_bad (Or.inr (Or.inl (by assumption)))).symm, rfl, rfl⟩ | exact ⟨(minus_bad (Or.inr (Or.inr (by assumption)))).symm, rfl, rfl⟩ | exact ⟨(minus_ok (by rw [Int64.not_lt]; assumption) (by assumption) (by assumption)).symm, rfl, rfl⟩)
  · refine j_iconst (v := nI 1) C dX2_minus_18 (by decide) ?_
    refine j_goto (tgt := 23) C dX2_minus_19 (by decide) ?_
    refine j_istore C dX2_minus_23 (by decide) ?_
    refine j_iload C dX2_minus_25 rfl ?_
    refine j_if_ne (tgt := 46) C dX2_minus_27 (by decide) (fun h_27 => ?_) (fun h_27 => ?_)
    · refine j_ldc2 C kc_X2_18 dX2_minus_46 ?_
      refine j_goto (tgt := 54) C dX2_minus_49 (by decide) ?_
      exact j_lret C hr dX2_minus_54 (by first | exact ⟨(minus_bad (Or.inl (by rw [← Int64.not_le]; assumption))).symm, rfl, rfl⟩ | exact ⟨(minus_bad (Or.inr (Or.inl (by assumption)))).symm, rfl, rfl⟩ | exact ⟨(minus_bad (Or.inr (Or.inr (by assumption)))).symm, rfl, rfl⟩ | exact ⟨(minus_ok (by rw [Int64.not_lt]; assumption) (by assumption) (by assumption)).symm, rfl, rfl⟩)
    · exact absurd h_27 (by decide)

set_option maxHeartbeats 4000000 in
set_option maxRecDepth 20000 in
theorem c_X2_put (l : Launch) (G : GT) (rg : RgT) (I : II) (L : LL) (o : Nat) (u v : Int64) (ho : isF rg o) : CtI l yX2_put cX2_put 7 (some FieldType.boolean) 2 G rg I L [.ref (gB G + o), .long u, .long v] (Put I L o (fPut (decO u) (decO v))) := by
  refine ctI_of [some (.ref (gB G + o)), some (.long u), none, some (.long v), none, none, none] rfl (Nat.le_of_ble_eq_true rfl) (by decide) ?_
  intro p e s m args below meth c C hr
  refine j_lload_n C dX2_put_0 rfl rfl ?_
  refine j_ldc2 C kc_X2_18 dX2_put_1 ?_
  refine j_lc_eq (tgt := 22) C dX2_put_4 dX2_put_5 (by decide) (fun h_5 => ?_) (fun h_5 => ?_)
  · refine j_iconst (v := nI 0) C dX2_put_22 (by decide) ?_
    exact j_zret C hr (by first | rfl | exact b2i_n _ rfl) dX2_put_23 (⟨rfl, Or.inr ⟨fPut_1 h_5, rfl, rfl⟩⟩)
  · refine j_lload_n C dX2_put_8 rfl rfl ?_
    refine j_ldc2 C kc_X2_18 dX2_put_9 ?_
    refine j_lc_eq (tgt := 22) C dX2_put_12 dX2_put_13 (by decide) (fun h_13 => ?_) (fun h_13 => ?_)
    · refine j_iconst (v := nI 0) C dX2_put_22 (by decide) ?_
      exact j_zret C hr (by first | rfl | exact b2i_n _ rfl) dX2_put_23 (⟨rfl, Or.inr ⟨fPut_2 h_13, rfl, rfl⟩⟩)
    · refine j_lload_n C dX2_put_16 rfl rfl ?_
      refine j_lconst (v := 0) C dX2_put_17 (by decide) ?_
      refine j_lc_ne (tgt := 24) C dX2_put_18 dX2_put_19 (by decide) (fun h_19 => ?_) (fun h_19 => ?_)
      · refine j_lload_n C dX2_put_24 rfl rfl ?_
        refine j_lload_n C dX2_put_25 rfl rfl ?_
        refine j_csL C sc_X2_20 (c_X2_commonDivisor l G rg _ _ _ _ (by assumption) (by assumption)) ⟨Nat.le_of_ble_eq_true rfl, Nat.le_of_ble_eq_true rfl⟩ rfl rfl (Nat.le_of_ble_eq_true rfl) ⟨Nat.zero_le _, Nat.zero_le _⟩ dX2_put_26 (fun r_26 I_26 L_26 p_26 => ?_)
        obtain ⟨rfl, rfl, rfl⟩ := p_26
        refine j_lstore C dX2_put_29 (by decide) ?_
        refine j_lload C dX2_put_31 rfl ?_
        refine j_lconst (v := 0) C dX2_put_33 (by decide) ?_
        refine j_lc_ne (tgt := 40) C dX2_put_34 dX2_put_35 (by decide) (fun h_35 => ?_) (fun h_35 => ?_)
        · refine j_lload_n C dX2_put_40 rfl rfl ?_
          refine j_lconst (v := 0) C dX2_put_41 (by decide) ?_
          refine j_lc_ge (tgt := 51) C dX2_put_42 dX2_put_43 (by decide) (fun h_43 => ?_) (fun h_43 => ?_)
          · refine j_aload_n C dX2_put_51 rfl rfl ?_
            refine j_lload_n C dX2_put_52 rfl rfl ?_
            refine j_lload C dX2_put_53 rfl ?_
            refine j_ldiv C dX2_put_55 (h_35) ?_
            refine g_putL C (by assumption) fw_X2_9 (by rfl) rfl (fits_long _) dX2_put_56 ?_
            refine j_aload_n C dX2_put_59 rfl rfl ?_
            refine j_lload_n C dX2_put_60 rfl rfl ?_
            refine j_lload C dX2_put_61 rfl ?_
            refine j_ldiv C dX2_put_63 (h_35) ?_
            refine g_putL C (by assumption) fw_X2_15 (by rfl) rfl (fits_long _) dX2_put_64 ?_
            refine j_iconst (v := nI 1) C dX2_put_67 (by decide) ?_
            exact j_zret C hr (by first | rfl | exact b2i_n _ rfl) dX2_put_68 (⟨rfl, Or.inl ⟨_, fPut_4 h_5 h_13 h_19, rfl, by rw [red_p h_43]; rfl⟩⟩)
          · refine j_lload C dX2_put_46 rfl ?_
            refine j_lneg C dX2_put_48 ?_
            refine j_lstore C dX2_put_49 (by decide) ?_
            refine j_aload_n C dX2_put_51 rfl rfl ?_
            refine j_lload_n C dX2_put_52 rfl rfl ?_
            refine j_lload C dX2_put_53 rfl ?_
            refine j_ldiv C dX2_put_55 (ng0 h_35) ?_
            refine g_putL C (by assumption) fw_X2_9 (by rfl) rfl (fits_long _) dX2_put_56 ?_
            refine j_aload_n C dX2_put_59 rfl rfl ?_
            refine j_lload_n C dX2_put_60 rfl rfl ?_
            refine j_lload C dX2_put_61 rfl ?_
            refine j_ldiv C dX2_put_63 (ng0 h_35) ?_
            refine g_putL C (by assumption) fw_X2_15 (by rfl) rfl (fits_long _) dX2_put_64 ?_
            refine j_iconst (v := nI 1) C dX2_put_67 (by decide) ?_
            exact j_zret C hr (by first | rfl | exact b2i_n _ rfl) dX2_put_68 (⟨rfl, Or.inl ⟨_, fPut_4 h_5 h_13 h_19, rfl, by rw [red_n h_43]; rfl⟩⟩)
        · refine j_iconst (v := nI 0) C dX2_put_38 (by decide) ?_
          exact j_zret C hr (by first | rfl | exact b2i_n _ rfl) dX2_put_39 (absurd h_35 (gcd_n0 h_5 h_13 h_19))
      · refine j_iconst (v := nI 0) C dX2_put_22 (by decide) ?_
        exact j_zret C hr (by first | rfl | exact b2i_n _ rfl) dX2_put_23 (⟨rfl, Or.inr ⟨fPut_3 h_19, rfl, rfl⟩⟩)

set_option maxHeartbeats 4000000 in
set_option maxRecDepth 20000 in
theorem c_X2_copy (l : Launch) (G : GT) (rg : RgT) (I : II) (L : LL) (o a : Nat) (ho : isF rg o) (ha : isF rg a) : CtV l yX2_copy cX2_copy 2 none 1 G rg I L [.ref (gB G + o), .ref (gB G + a)] (fun I1 L1 => I = I1 ∧ setF L o (fr L a) = L1) := by
  refine ctV_of [some (.ref (gB G + o)), some (.ref (gB G + a))] rfl (Nat.le_of_ble_eq_true rfl) (by decide) ?_
  intro p e s m args below meth c C hr
  refine j_aload_n C dX2_copy_0 rfl rfl ?_
  refine j_aload_n C dX2_copy_1 rfl rfl ?_
  refine g_getL C (by assumption) fl_X2_9 (by rfl) dX2_copy_2 ?_
  refine g_putL C (by assumption) fw_X2_9 (by rfl) rfl (fits_long _) dX2_copy_5 ?_
  refine j_aload_n C dX2_copy_8 rfl rfl ?_
  refine j_aload_n C dX2_copy_9 rfl rfl ?_
  refine g_getL C (by assumption) fl_X2_15 (by rfl) dX2_copy_10 ?_
  refine t_l (y := L a 1) (by rw [up2_at]; split <;> simp_all) ?_
  refine g_putL C (by assumption) fw_X2_15 (by rfl) rfl (fits_long _) dX2_copy_13 ?_
  exact j_vret C hr dX2_copy_16 (⟨rfl, rfl⟩)

set_option maxHeartbeats 4000000 in
set_option maxRecDepth 20000 in
theorem c_X2_sum (l : Launch) (G : GT) (rg : RgT) (I : II) (L : LL) (o a b : Nat) (ho : isF rg o) (ha : isF rg a) (hb : isF rg b) : CtI l yX2_sum cX2_sum 3 (some FieldType.boolean) 3 G rg I L [.ref (gB G + o), .ref (gB G + a), .ref (gB G + b)] (Put I L o (fAdd (fr L a) (fr L b))) := by
  refine ctI_of [some (.ref (gB G + o)), some (.ref (gB G + a)), some (.ref (gB G + b))] rfl (Nat.le_of_ble_eq_true rfl) (by decide) ?_
  intro p e s m args below meth c C hr
  refine j_aload_n C dX2_sum_0 rfl rfl ?_
  refine j_aload_n C dX2_sum_1 rfl rfl ?_
  refine g_getL C (by assumption) fl_X2_9 (by rfl) dX2_sum_2 ?_
  refine j_aload_n C dX2_sum_5 rfl rfl ?_
  refine g_getL C (by assumption) fl_X2_15 (by rfl) dX2_sum_6 ?_
  refine j_csL C sc_X2_24 (c_X2_times l G rg _ _ _ _) ⟨Nat.le_of_ble_eq_true rfl, Nat.le_of_ble_eq_true rfl⟩ rfl rfl (Nat.le_of_ble_eq_true rfl) ⟨Nat.zero_le _, Nat.zero_le _⟩ dX2_sum_9 (fun r_9 I_9 L_9 p_9 => ?_)
  obtain ⟨rfl, rfl, rfl⟩ := p_9
  refine j_aload_n C dX2_sum_12 rfl rfl ?_
  refine g_getL C (by assumption) fl_X2_9 (by rfl) dX2_sum_13 ?_
  refine j_aload_n C dX2_sum_16 rfl rfl ?_
  refine g_getL C (by assumption) fl_X2_15 (by rfl) dX2_sum_17 ?_
  refine j_csL C sc_X2_24 (c_X2_times l G rg _ _ _ _) ⟨Nat.le_of_ble_eq_true rfl, Nat.le_of_ble_eq_true rfl⟩ rfl rfl (Nat.le_of_ble_eq_true rfl) ⟨Nat.zero_le _, Nat.zero_le _⟩ dX2_sum_20 (fun r_20 I_20 L_20 p_20 => ?_)
  obtain ⟨rfl, rfl, rfl⟩ := p_20
  refine j_csL C sc_X2_27 (c_X2_plus l G rg _ _ _ _) ⟨Nat.le_of_ble_eq_true rfl, Nat.le_of_ble_eq_true rfl⟩ rfl rfl (Nat.le_of_ble_eq_true rfl) ⟨Nat.zero_le _, Nat.zero_le _⟩ dX2_sum_23 (fun r_23 I_23 L_23 p_23 => ?_)
  obtain ⟨rfl, rfl, rfl⟩ := p_23
  refine j_aload_n C dX2_sum_26 rfl rfl ?_
  refine g_getL C (by assumption) fl_X2_15 (by rfl) dX2_sum_27 ?_
  refine j_aload_n C dX2_sum_30 rfl rfl ?_
  refine g_getL C (by assumption) fl_X2_15 (by rfl) dX2_sum_31 ?_
  refine j_csL C sc_X2_24 (c_X2_times l G rg _ _ _ _) ⟨Nat.le_of_ble_eq_true rfl, Nat.le_of_ble_eq_true rfl⟩ rfl rfl (Nat.le_of_ble_eq_true rfl) ⟨Nat.zero_le _, Nat.zero_le _⟩ dX2_sum_34 (fun r_34 I_34 L_34 p_34 => ?_)
  obtain ⟨rfl, rfl, rfl⟩ := p_34
  refine g_cvI C vc_X2_30 (c_X2_put l G rg _ _ _ _ _ (by assumption)) ⟨Nat.le_of_ble_eq_true rfl, Nat.le_of_ble_eq_true rfl⟩ (by assumption) rfl rfl (Nat.le_of_ble_eq_true rfl) ⟨Nat.zero_le _, Nat.zero_le _⟩ dX2_sum_37 (fun r_37 I_37 L_37 p_37 => ?_)
  exact j_zret C hr (by rcases p_37 with ⟨-, ⟨z, -, rfl, -⟩ | ⟨-, rfl, -⟩⟩ <;> rfl) dX2_sum_40 (by simp only [dec_mul, dec_addOO, dec_subOO] at p_37; exact p_37)

set_option maxHeartbeats 4000000 in
set_option maxRecDepth 20000 in
theorem c_X2_difference (l : Launch) (G : GT) (rg : RgT) (I : II) (L : LL) (o a b : Nat) (ho : isF rg o) (ha : isF rg a) (hb : isF rg b) : CtI l yX2_difference cX2_difference 3 (some FieldType.boolean) 3 G rg I L [.ref (gB G + o), .ref (gB G + a), .ref (gB G + b)] (Put I L o (fSub (fr L a) (fr L b))) := by
  refine ctI_of [some (.ref (gB G + o)), some (.ref (gB G + a)), some (.ref (gB G + b))] rfl (Nat.le_of_ble_eq_true rfl) (by decide) ?_
  intro p e s m args below meth c C hr
  refine j_aload_n C dX2_difference_0 rfl rfl ?_
  refine j_aload_n C dX2_difference_1 rfl rfl ?_
  refine g_getL C (by assumption) fl_X2_9 (by rfl) dX2_difference_2 ?_
  refine j_aload_n C dX2_difference_5 rfl rfl ?_
  refine g_getL C (by assumption) fl_X2_15 (by rfl) dX2_difference_6 ?_
  refine j_csL C sc_X2_24 (c_X2_times l G rg _ _ _ _) ⟨Nat.le_of_ble_eq_true rfl, Nat.le_of_ble_eq_true rfl⟩ rfl rfl (Nat.le_of_ble_eq_true rfl) ⟨Nat.zero_le _, Nat.zero_le _⟩ dX2_difference_9 (fun r_9 I_9 L_9 p_9 => ?_)
  obtain ⟨rfl, rfl, rfl⟩ := p_9
  refine j_aload_n C dX2_difference_12 rfl rfl ?_
  refine g_getL C (by assumption) fl_X2_9 (by rfl) dX2_difference_13 ?_
  refine j_aload_n C dX2_difference_16 rfl rfl ?_
  refine g_getL C (by assumption) fl_X2_15 (by rfl) dX2_difference_17 ?_
  refine j_csL C sc_X2_24 (c_X2_times l G rg _ _ _ _) ⟨Nat.le_of_ble_eq_true rfl, Nat.le_of_ble_eq_true rfl⟩ rfl rfl (Nat.le_of_ble_eq_true rfl) ⟨Nat.zero_le _, Nat.zero_le _⟩ dX2_difference_20 (fun r_20 I_20 L_20 p_20 => ?_)
  obtain ⟨rfl, rfl, rfl⟩ := p_20
  refine j_csL C sc_X2_34 (c_X2_minus l G rg _ _ _ _) ⟨Nat.le_of_ble_eq_true rfl, Nat.le_of_ble_eq_true rfl⟩ rfl rfl (Nat.le_of_ble_eq_true rfl) ⟨Nat.zero_le _, Nat.zero_le _⟩ dX2_difference_23 (fun r_23 I_23 L_23 p_23 => ?_)
  obtain ⟨rfl, rfl, rfl⟩ := p_23
  refine j_aload_n C dX2_difference_26 rfl rfl ?_
  refine g_getL C (by assumption) fl_X2_15 (by rfl) dX2_difference_27 ?_
  refine j_aload_n C dX2_difference_30 rfl rfl ?_
  refine g_getL C (by assumption) fl_X2_15 (by rfl) dX2_difference_31 ?_
  refine j_csL C sc_X2_24 (c_X2_times l G rg _ _ _ _) ⟨Nat.le_of_ble_eq_true rfl, Nat.le_of_ble_eq_true rfl⟩ rfl rfl (Nat.le_of_ble_eq_true rfl) ⟨Nat.zero_le _, Nat.zero_le _⟩ dX2_difference_34 (fun r_34 I_34 L_34 p_34 => ?_)
  obtain ⟨rfl, rfl, rfl⟩ := p_34
  refine g_cvI C vc_X2_30 (c_X2_put l G rg _ _ _ _ _ (by assumption)) ⟨Nat.le_of_ble_eq_true rfl, Nat.le_of_ble_eq_true rfl⟩ (by assumption) rfl rfl (Nat.le_of_ble_eq_true rfl) ⟨Nat.zero_le _, Nat.zero_le _⟩ dX2_difference_37 (fun r_37 I_37 L_37 p_37 => ?_)
  exact j_zret C hr (by rcases p_37 with ⟨-, ⟨z, -, rfl, -⟩ | ⟨-, rfl, -⟩⟩ <;> rfl) dX2_difference_40 (by simp only [dec_mul, dec_addOO, dec_subOO] at p_37; exact p_37)

set_option maxHeartbeats 4000000 in
set_option maxRecDepth 20000 in
theorem c_X2_product (l : Launch) (G : GT) (rg : RgT) (I : II) (L : LL) (o a b : Nat) (ho : isF rg o) (ha : isF rg a) (hb : isF rg b) : CtI l yX2_product cX2_product 3 (some FieldType.boolean) 3 G rg I L [.ref (gB G + o), .ref (gB G + a), .ref (gB G + b)] (Put I L o (fMul (fr L a) (fr L b))) := by
  refine ctI_of [some (.ref (gB G + o)), some (.ref (gB G + a)), some (.ref (gB G + b))] rfl (Nat.le_of_ble_eq_true rfl) (by decide) ?_
  intro p e s m args below meth c C hr
  refine j_aload_n C dX2_product_0 rfl rfl ?_
  refine j_aload_n C dX2_product_1 rfl rfl ?_
  refine g_getL C (by assumption) fl_X2_9 (by rfl) dX2_product_2 ?_
  refine j_aload_n C dX2_product_5 rfl rfl ?_
  refine g_getL C (by assumption) fl_X2_9 (by rfl) dX2_product_6 ?_
  refine j_csL C sc_X2_24 (c_X2_times l G rg _ _ _ _) ⟨Nat.le_of_ble_eq_true rfl, Nat.le_of_ble_eq_true rfl⟩ rfl rfl (Nat.le_of_ble_eq_true rfl) ⟨Nat.zero_le _, Nat.zero_le _⟩ dX2_product_9 (fun r_9 I_9 L_9 p_9 => ?_)
  obtain ⟨rfl, rfl, rfl⟩ := p_9
  refine j_aload_n C dX2_product_12 rfl rfl ?_
  refine g_getL C (by assumption) fl_X2_15 (by rfl) dX2_product_13 ?_
  refine j_aload_n C dX2_product_16 rfl rfl ?_
  refine g_getL C (by assumption) fl_X2_15 (by rfl) dX2_product_17 ?_
  refine j_csL C sc_X2_24 (c_X2_times l G rg _ _ _ _) ⟨Nat.le_of_ble_eq_true rfl, Nat.le_of_ble_eq_true rfl⟩ rfl rfl (Nat.le_of_ble_eq_true rfl) ⟨Nat.zero_le _, Nat.zero_le _⟩ dX2_product_20 (fun r_20 I_20 L_20 p_20 => ?_)
  obtain ⟨rfl, rfl, rfl⟩ := p_20
  refine g_cvI C vc_X2_30 (c_X2_put l G rg _ _ _ _ _ (by assumption)) ⟨Nat.le_of_ble_eq_true rfl, Nat.le_of_ble_eq_true rfl⟩ (by assumption) rfl rfl (Nat.le_of_ble_eq_true rfl) ⟨Nat.zero_le _, Nat.zero_le _⟩ dX2_product_23 (fun r_23 I_23 L_23 p_23 => ?_)
  exact j_zret C hr (by rcases p_23 with ⟨-, ⟨z, -, rfl, -⟩ | ⟨-, rfl, -⟩⟩ <;> rfl) dX2_product_26 (by simp only [dec_mul, dec_addOO, dec_subOO] at p_23; exact p_23)

set_option maxHeartbeats 4000000 in
set_option maxRecDepth 20000 in
theorem c_X2_quotient (l : Launch) (G : GT) (rg : RgT) (I : II) (L : LL) (o a b : Nat) (ho : isF rg o) (ha : isF rg a) (hb : isF rg b) : CtI l yX2_quotient cX2_quotient 3 (some FieldType.boolean) 3 G rg I L [.ref (gB G + o), .ref (gB G + a), .ref (gB G + b)] (Put I L o (fDiv (fr L a) (fr L b))) := by
  refine ctI_of [some (.ref (gB G + o)), some (.ref (gB G + a)), some (.ref (gB G + b))] rfl (Nat.le_of_ble_eq_true rfl) (by decide) ?_
  intro p e s m args below meth c C hr
  refine j_aload_n C dX2_quotient_0 rfl rfl ?_
  refine j_aload_n C dX2_quotient_1 rfl rfl ?_
  refine g_getL C (by assumption) fl_X2_9 (by rfl) dX2_quotient_2 ?_
  refine j_aload_n C dX2_quotient_5 rfl rfl ?_
  refine g_getL C (by assumption) fl_X2_15 (by rfl) dX2_quotient_6 ?_
  refine j_csL C sc_X2_24 (c_X2_times l G rg _ _ _ _) ⟨Nat.le_of_ble_eq_true rfl, Nat.le_of_ble_eq_true rfl⟩ rfl rfl (Nat.le_of_ble_eq_true rfl) ⟨Nat.zero_le _, Nat.zero_le _⟩ dX2_quotient_9 (fun r_9 I_9 L_9 p_9 => ?_)
  obtain ⟨rfl, rfl, rfl⟩ := p_9
  refine j_aload_n C dX2_quotient_12 rfl rfl ?_
  refine g_getL C (by assumption) fl_X2_15 (by rfl) dX2_quotient_13 ?_
  refine j_aload_n C dX2_quotient_16 rfl rfl ?_
  refine g_getL C (by assumption) fl_X2_9 (by rfl) dX2_quotient_17 ?_
  refine j_csL C sc_X2_24 (c_X2_times l G rg _ _ _ _) ⟨Nat.le_of_ble_eq_true rfl, Nat.le_of_ble_eq_true rfl⟩ rfl rfl (Nat.le_of_ble_eq_true rfl) ⟨Nat.zero_le _, Nat.zero_le _⟩ dX2_quotient_20 (fun r_20 I_20 L_20 p_20 => ?_)
  obtain ⟨rfl, rfl, rfl⟩ := p_20
  refine g_cvI C vc_X2_30 (c_X2_put l G rg _ _ _ _ _ (by assumption)) ⟨Nat.le_of_ble_eq_true rfl, Nat.le_of_ble_eq_true rfl⟩ (by assumption) rfl rfl (Nat.le_of_ble_eq_true rfl) ⟨Nat.zero_le _, Nat.zero_le _⟩ dX2_quotient_23 (fun r_23 I_23 L_23 p_23 => ?_)
  exact j_zret C hr (by rcases p_23 with ⟨-, ⟨z, -, rfl, -⟩ | ⟨-, rfl, -⟩⟩ <;> rfl) dX2_quotient_26 (by simp only [dec_mul, dec_addOO, dec_subOO] at p_23; exact p_23)

set_option maxHeartbeats 4000000 in
set_option maxRecDepth 20000 in
theorem c_compare (l : Launch) (G : GT) (rg : RgT) (I : II) (L : LL) (x y : Int64)  : CtI l yJ13_compare_74951 cJ13_compare_74951 4 (some FieldType.int) 1 G rg I L [.long x, .long y] (fun r I1 L1 => r = lg_cmp x y ∧ I = I1 ∧ L = L1) := by
  refine ctI_of [some (.long x), none, some (.long y), none] rfl (Nat.le_of_ble_eq_true rfl) (by decide) ?_
  intro p e s m args below meth c C hr
  refine j_lload_n C dJ13_compare_74951_0 rfl rfl ?_
  refine j_lload_n C dJ13_compare_74951_1 rfl rfl ?_
  refine j_lc_ge (tgt := 10) C dJ13_compare_74951_2 dJ13_compare_74951_3 (by decide) (fun h_3 => ?_) (fun h_3 => ?_)
  · refine j_lload_n C dJ13_compare_74951_10 rfl rfl ?_
    refine j_lload_n C dJ13_compare_74951_11 rfl rfl ?_
    refine j_lc_ne (tgt := 20) C dJ13_compare_74951_12 dJ13_compare_74951_13 (by decide) (fun h_13 => ?_) (fun h_13 => ?_)
    · refine j_iconst (v := nI 1) C dJ13_compare_74951_20 (by decide) ?_
      exact j_iret C hr dJ13_compare_74951_21 (by refine ⟨?_, rfl, rfl⟩; simp only [lg_cmp, gt_iff_lt]; first | (rw [if_neg (fun q => h_3 (Int64.le_of_lt q)), if_neg (fun q => h_3 (by rw [q]; exact Int64.le_refl _))]; try rfl) | (rw [if_neg (by intro q; rw [h_13] at q; exact absurd q (Int64.lt_irrefl)), if_pos h_13]; try rfl) | (rw [if_pos (Int64.lt_of_le_of_ne h_3 (fun q => h_13 q.symm))]; try rfl))
    · refine j_iconst (v := nI 0) C dJ13_compare_74951_16 (by decide) ?_
      refine j_goto (tgt := 21) C dJ13_compare_74951_17 (by decide) ?_
      exact j_iret C hr dJ13_compare_74951_21 (by refine ⟨?_, rfl, rfl⟩; simp only [lg_cmp, gt_iff_lt]; first | (rw [if_neg (fun q => h_3 (Int64.le_of_lt q)), if_neg (fun q => h_3 (by rw [q]; exact Int64.le_refl _))]; try rfl) | (rw [if_neg (by intro q; rw [h_13] at q; exact absurd q (Int64.lt_irrefl)), if_pos h_13]; try rfl) | (rw [if_pos (Int64.lt_of_le_of_ne h_3 (fun q => h_13 q.symm))]; try rfl))
  · refine j_iconst (v := (-1)) C dJ13_compare_74951_6 (by decide) ?_
    refine j_goto (tgt := 21) C dJ13_compare_74951_7 (by decide) ?_
    exact j_iret C hr dJ13_compare_74951_21 (by refine ⟨?_, rfl, rfl⟩; simp only [lg_cmp, gt_iff_lt]; first | (rw [if_neg (fun q => h_3 (Int64.le_of_lt q)), if_neg (fun q => h_3 (by rw [q]; exact Int64.le_refl _))]; try rfl) | (rw [if_neg (by intro q; rw [h_13] at q; exact absurd q (Int64.lt_irrefl)), if_pos h_13]; try rfl) | (rw [if_pos (Int64.lt_of_le_of_ne h_3 (fun q => h_13 q.symm))]; try rfl))

set_option maxHeartbeats 4000000 in
set_option maxRecDepth 20000 in
theorem c_X2_sign (l : Launch) (G : GT) (rg : RgT) (I : II) (L : LL) (o : Nat) (ho : isF rg o) : CtI l yX2_sign cX2_sign 1 (some FieldType.int) 2 G rg I L [.ref (gB G + o)] (fun r I1 L1 => r = lg_cmp (L o 0) 0 ∧ I = I1 ∧ L = L1) := by
  refine ctI_of [some (.ref (gB G + o))] rfl (Nat.le_of_ble_eq_true rfl) (by decide) ?_
  intro p e s m args below meth c C hr
  refine j_aload_n C dX2_sign_0 rfl rfl ?_
  refine g_getL C (by assumption) fl_X2_9 (by rfl) dX2_sign_1 ?_
  refine j_lconst (v := 0) C dX2_sign_4 (by decide) ?_
  refine j_csI C sc_X2_37 (c_compare l G rg _ _ _ _) ⟨Nat.le_of_ble_eq_true rfl, Nat.le_of_ble_eq_true rfl⟩ rfl rfl (Nat.le_of_ble_eq_true rfl) ⟨Nat.zero_le _, Nat.zero_le _⟩ dX2_sign_5 (fun r_5 I_5 L_5 p_5 => ?_)
  obtain ⟨rfl, rfl, rfl⟩ := p_5
  exact j_iret C hr dX2_sign_8 (⟨rfl, rfl, rfl⟩)

set_option maxHeartbeats 4000000 in
set_option maxRecDepth 20000 in
theorem c_X2_isSame (l : Launch) (G : GT) (rg : RgT) (I : II) (L : LL) (o a : Nat) (ho : isF rg o) (ha : isF rg a) : CtI l yX2_isSame cX2_isSame 2 (some FieldType.boolean) 1 G rg I L [.ref (gB G + o), .ref (gB G + a)] (fun r I1 L1 => r = b2i (decide (fr L o = fr L a)) ∧ I = I1 ∧ L = L1) := by
  refine ctI_of [some (.ref (gB G + o)), some (.ref (gB G + a))] rfl (Nat.le_of_ble_eq_true rfl) (by decide) ?_
  intro p e s m args below meth c C hr
  refine j_aload_n C dX2_isSame_0 rfl rfl ?_
  refine g_getL C (by assumption) fl_X2_9 (by rfl) dX2_isSame_1 ?_
  refine j_aload_n C dX2_isSame_4 rfl rfl ?_
  refine g_getL C (by assumption) fl_X2_9 (by rfl) dX2_isSame_5 ?_
  refine j_lc_ne (tgt := 28) C dX2_isSame_8 dX2_isSame_9 (by decide) (fun h_9 => ?_) (fun h_9 => ?_)
  · refine j_iconst (v := nI 0) C dX2_isSame_28 (by decide) ?_
    exact j_zret C hr (by first | rfl | exact b2i_n _ rfl) dX2_isSame_29 (by refine ⟨?_, rfl, rfl⟩; first | (rw [decide_eq_true (by unfold fr; rw [h_9, h_21])]; try rfl) | (rw [decide_eq_false (fun q => h_21 (congrArg Prod.snd q))]; try rfl) | (rw [decide_eq_false (fun q => h_9 (congrArg Prod.fst q))]; rfl))
  · refine j_aload_n C dX2_isSame_12 rfl rfl ?_
    refine g_getL C (by assumption) fl_X2_15 (by rfl) dX2_isSame_13 ?_
    refine j_aload_n C dX2_isSame_16 rfl rfl ?_
    refine g_getL C (by assumption) fl_X2_15 (by rfl) dX2_isSame_17 ?_
    refine j_lc_ne (tgt := 28) C dX2_isSame_20 dX2_isSame_21 (by decide) (fun h_21 => ?_) (fun h_21 => ?_)
    · refine j_iconst (v := nI 0) C dX2_isSame_28 (by decide) ?_
      exact j_zret C hr (by first | rfl | exact b2i_n _ rfl) dX2_isSame_29 (by refine ⟨?_, rfl, rfl⟩; first | (rw [decide_eq_true (by unfold fr; rw [h_9, h_21])]; try rfl) | (rw [decide_eq_false (fun q => h_21 (congrArg Prod.snd q))]; try rfl) | (rw [decide_eq_false (fun q => h_9 (congrArg Prod.fst q))]; rfl))
    · refine j_iconst (v := nI 1) C dX2_isSame_24 (by decide) ?_
      refine j_goto (tgt := 29) C dX2_isSame_25 (by decide) ?_
      exact j_zret C hr (by first | rfl | exact b2i_n _ rfl) dX2_isSame_29 (by refine ⟨?_, rfl, rfl⟩; first | (rw [decide_eq_true (by unfold fr; rw [h_9, h_21])]; try rfl) | (rw [decide_eq_false (fun q => h_21 (congrArg Prod.snd q))]; try rfl) | (rw [decide_eq_false (fun q => h_9 (congrArg Prod.fst q))]; rfl))

set_option maxHeartbeats 4000000 in
set_option maxRecDepth 20000 in
theorem c_X2_part (l : Launch) (G : GT) (rg : RgT) (I : II) (L : LL) (o : Nat) (k : Int32) (ho : isF rg o) : CtL l yX2_part cX2_part 2 (some FieldType.long) 1 G rg I L [.ref (gB G + o), .int k] (fun r I1 L1 => r = (if k = 0 then L o 0 else L o 1) ∧ I = I1 ∧ L = L1) := by
  refine ctL_of [some (.ref (gB G + o)), some (.int k)] rfl (Nat.le_of_ble_eq_true rfl) (by decide) ?_
  intro p e s m args below meth c C hr
  refine j_iload_n C dX2_part_0 rfl rfl ?_
  first | refine n_if_ne (tgt := 11) C dX2_part_1 (by decide) (fun h_1 => ?_) (fun h_1 => ?_) | refine j_if_ne (tgt := 11) C dX2_part_1 (by decide) (fun h_1 => ?_) (fun h_1 => ?_)
  · refine j_aload_n C dX2_part_11 rfl rfl ?_
    refine g_getL C (by assumption) fl_X2_15 (by rfl) dX2_part_12 ?_
    exact j_lret C hr dX2_part_15 (⟨by simp [h_1], rfl, rfl⟩)
  · refine j_aload_n C dX2_part_4 rfl rfl ?_
    refine g_getL C (by assumption) fl_X2_9 (by rfl) dX2_part_5 ?_
    refine j_goto (tgt := 15) C dX2_part_8 (by decide) ?_
    exact j_lret C hr dX2_part_15 (⟨by simp [h_1], rfl, rfl⟩)
