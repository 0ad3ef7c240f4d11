/-! ===== prove ===== -/
def tl7 (a b c d e f g : Int32) (k : Nat) : Int32 := if k = 0 then a else if k = 1 then b else if k = 2 then c else if k = 3 then d else if k = 4 then e else if k = 5 then f else g
noncomputable def pfO (n : Nat) (f : Nat → Int32) (k : Nat) (jo : Option Nat) (E : ES) : Option (Nat → Fr) := (gbO n E (eS E) (wit0 k jo (eM E))).bind (ptO n f)
noncomputable def prvQ (n : Nat) (f : Nat → Int32) (q : Nat × Nat × Option Nat × ES) : Nat × ES × Option (Nat → Fr) := if q.1 = 0 then (match pfO n f q.2.1 q.2.2.1 q.2.2.2 with
  | some X => (0, q.2.2.2, some X)
  | none => (2, q.2.2.2, none)) else (q.1, q.2.2.2, none)
noncomputable def prvO (n : Nat) (f : Nat → Int32) (M : Nat → Nat → Fr) : Nat × ES × Option (Nat → Fr) := prvQ n f (elim n (n + 1) (E0 n M))
noncomputable def proveR (A : AS) (x : Int32) : Int32 := if okF x (aF A) = true then nI (prvO (aN A) (aV A x.toNatClampNeg) (mxF A x.toNatClampNeg)).1 else -1
/-- the state behind a proof that answers c with squares E, of form f under g, and so on -/
def toldS (A : AS) (c : Nat) (E : ES) (X : Option (Nat → Fr)) (M : Nat → Nat → Fr) (f g u d t : Int32) : AS := (aN A, aF A, aP A + 1, aV A, tl7 (nI c) (if c = 1 then nI (eS E) else 0) f g u d t, E, M, X)
noncomputable def proveS (A : AS) (x : Int32) : AS := if okF x (aF A) = true then toldS A (prvO (aN A) (aV A x.toNatClampNeg) (mxF A x.toNatClampNeg)).1 (prvO (aN A) (aV A x.toNatClampNeg) (mxF A x.toNatClampNeg)).2.1 (prvO (aN A) (aV A x.toNatClampNeg) (mxF A x.toNatClampNeg)).2.2 (mxF A x.toNatClampNeg) x (-1) 0 1 0 else A
def stT (g c : Int32) (k : Nat) : Int32 := if k = 2 then g else if k = 3 then c else if k = 5 then 1 else 0

set_option maxHeartbeats 4000000 in
set_option maxRecDepth 20000 in
theorem c_X1_atWhole (l : Launch) (G : GT) (rg : RgT) (I : II) (L : LL) (fo wo n : Nat) (hf : isFm rg fo) (hw : Ar rg wo 1 5) (hn : n < 5) : CtL l yX1_atWhole cX1_atWhole 9 (some FieldType.long) 3 G rg I L [.ref (gB G + fo), .ref (gB G + wo), .int (nI n)] (fun r I1 L1 => r = inI (I (fo + 1)) (L wo) n (n + 1) 0 ∧ I = I1 ∧ L = L1) := by
  refine ctL_of [some (.ref (gB G + fo)), some (.ref (gB G + wo)), some (.int (nI n)), none, none, none, none, none, none] rfl (Nat.le_of_ble_eq_true rfl) (by decide) ?_
  intro p e s m args below meth c C hr
  obtain ⟨hf1, hf2⟩ := id hf
  have lp : ∀ (fuel : Nat) (i : Nat) (sm : Int64), n + 1 < fuel + i → i ≤ n + 1 → inI (I (fo + 1)) (L wo) n (n + 1 - i) sm = inI (I (fo + 1)) (L wo) n (n + 1) 0 → J p l e (rmD 3) s m args below meth c (MQ below (QL G rg (fun r I1 L1 => r = inI (I (fo + 1)) (L wo) n (n + 1) 0 ∧ I = I1 ∧ L = L1)) args s 0 0 (rg_A G rg)) 9 G rg 0 0 I L 5 [some (.ref (gB G + fo)), some (.ref (gB G + wo)), some (.int (nI n)), some (.long sm), none, some (.int (nI i)), none, none, none] [] := by
    intro fuel
    induction fuel with
    | zero => intro i sm h1 h2 he; exfalso; omega
    | succ fuel ih_lp =>
      intro i sm h1 h2 he
      refine j_iload C dX1_atWhole_5 rfl ?_
      refine j_iload_n C dX1_atWhole_7 rfl rfl ?_
      first | refine n_icmp_gt (tgt := 69) C (by omega) (by omega) dX1_atWhole_8 (by decide) (fun h_8 => ?_) (fun h_8 => ?_) | refine j_icmp_gt (tgt := 69) C dX1_atWhole_8 (by decide) (fun h_8 => ?_) (fun h_8 => ?_)
      · refine j_lload_n C dX1_atWhole_69 rfl rfl ?_
        exact j_lret C hr dX1_atWhole_70 (⟨by rw [← he, show n + 1 - i = 0 by omega]; rfl, rfl, rfl⟩)
      · refine j_lconst (v := 0) C dX1_atWhole_11 (by decide) ?_
        refine j_lstore C dX1_atWhole_12 (by decide) ?_
        refine j_iload C dX1_atWhole_14 rfl ?_
        refine j_istore C dX1_atWhole_16 (by decide) ?_
        have lq : ∀ (fuel : Nat) (j : Nat) (inn : Int64), n + 1 < fuel + j → j ≤ n + 1 → i ≤ j → inJ (I (fo + 1)) (L wo) n i (n + 1 - j) inn = inJ (I (fo + 1)) (L wo) n i (n + 1 - i) 0 → J p l e (rmD 3) s m args below meth c (MQ below (QL G rg (fun r I1 L1 => r = inI (I (fo + 1)) (L wo) n (n + 1) 0 ∧ I = I1 ∧ L = L1)) args s 0 0 (rg_A G rg)) 9 G rg 0 0 I L 18 [some (.ref (gB G + fo)), some (.ref (gB G + wo)), some (.int (nI n)), some (.long sm), none, some (.int (nI i)), some (.long inn), none, some (.int (nI j))] [] := by
          intro fuel
          induction fuel with
          | zero => intro j inn q1 q2 q3 hj0; exfalso; omega
          | succ fuel ih_lq =>
            intro j inn q1 q2 q3 hj0
            refine j_iload C dX1_atWhole_18 rfl ?_
            refine j_iload_n C dX1_atWhole_20 rfl rfl ?_
            first | refine n_icmp_gt (tgt := 53) C (by omega) (by omega) dX1_atWhole_21 (by decide) (fun h_21 => ?_) (fun h_21 => ?_) | refine j_icmp_gt (tgt := 53) C dX1_atWhole_21 (by decide) (fun h_21 => ?_) (fun h_21 => ?_)
            · refine j_lload_n C dX1_atWhole_53 rfl rfl ?_
              refine j_lload C dX1_atWhole_54 rfl ?_
              refine j_aload_n C dX1_atWhole_56 rfl rfl ?_
              refine j_iload C dX1_atWhole_57 rfl ?_
              refine g_lald C (hw) (by omega) (by decide) dX1_atWhole_59 ?_
              refine j_lmul C dX1_atWhole_60 ?_
              refine j_ladd C dX1_atWhole_61 ?_
              refine j_lstore_n C dX1_atWhole_62 rfl (by decide) ?_
              first | refine n_iinc (n := 1) C dX1_atWhole_63 rfl (by decide) ?_ | refine j_iinc C dX1_atWhole_63 rfl rfl (by decide) ?_
              refine j_goto (tgt := 5) C dX1_atWhole_66 (by decide) ?_
              refine j_rm 6 ?_
              refine j_rm 8 ?_
              exact ih_lp (i + 1) _ (by omega) (by omega) (by rw [← he]; refine Eq.trans ?_ (inI_s (i := i) (a := sm) (by omega)).symm; rw [← hj0, show n + 1 - j = 0 by omega]; rfl)
            · refine j_lload C dX1_atWhole_24 rfl ?_
              refine j_aload_n C dX1_atWhole_26 rfl rfl ?_
              refine g_getR C (by assumption) fl_X1_9 (by rfl) dX1_atWhole_27 ?_
              refine j_iload C dX1_atWhole_30 rfl ?_
              refine j_iconst (v := nI 5) C dX1_atWhole_32 (by decide) ?_
              first | refine n_imul C dX1_atWhole_33 ?_ | refine j_imul C dX1_atWhole_33 ?_
              refine j_iload C dX1_atWhole_34 rfl ?_
              first | refine n_iadd C dX1_atWhole_36 ?_ | refine j_iadd C dX1_atWhole_36 ?_
              refine g_iald C (hf2) (by omega) (by decide) dX1_atWhole_37 ?_
              refine j_i2l C dX1_atWhole_38 ?_
              refine j_aload_n C dX1_atWhole_39 rfl rfl ?_
              refine j_iload C dX1_atWhole_40 rfl ?_
              refine g_lald C (hw) (by omega) (by decide) dX1_atWhole_42 ?_
              refine j_lmul C dX1_atWhole_43 ?_
              refine j_ladd C dX1_atWhole_44 ?_
              refine j_lstore C dX1_atWhole_45 (by decide) ?_
              first | refine n_iinc (n := 1) C dX1_atWhole_47 rfl (by decide) ?_ | refine j_iinc C dX1_atWhole_47 rfl rfl (by decide) ?_
              refine j_goto (tgt := 18) C dX1_atWhole_50 (by decide) ?_
              exact ih_lq (j + 1) _ (by omega) (by omega) (by omega) (by rw [← hj0]; exact (inJ_s (by omega)).symm)
        exact lq (n + 2) i 0 (by omega) (by omega) (by omega) rfl
  refine j_lconst (v := 0) C dX1_atWhole_0 (by decide) ?_
  refine j_lstore_n C dX1_atWhole_1 rfl (by decide) ?_
  refine j_iconst (v := nI 0) C dX1_atWhole_2 (by decide) ?_
  refine j_istore C dX1_atWhole_3 (by decide) ?_
  exact lp (n + 2) 0 0 (by omega) (by omega) rfl

theorem vb1 {A : AS} {f a b c d : Int32} {k : Nat} (h1 : 1 ≤ k) (h2 : k ≤ aN A) (h : wh5 a b c d k < -1000) : ¬ valOk A f a b c d := fun q => (q.2 k h1 h2).1 h
theorem vb2 {A : AS} {f a b c d : Int32} {k : Nat} (h1 : 1 ≤ k) (h2 : k ≤ aN A) (h : ¬ wh5 a b c d k ≤ 1000) : ¬ valOk A f a b c d := fun q => h (q.2 k h1 h2).2
theorem RC_whole {A : AS} {I : II} {L L1 : LL} (h : RC A I L) (hok : aok A) (hF : Fm 3 4 L L1) : RC A I L1 := h.cong hok rfl (fun _ _ => rfl) rfl rfl (fun _ _ _ => rfl) (fun q q1 q2 => hF.at (by omega)) (fun q q1 q2 => hF.at (by omega)) (fun q q1 q2 => hF.at (by omega))
set_option maxHeartbeats 4000000 in
set_option maxRecDepth 20000 in
theorem c_X6_value (l : Launch) (G : GT) (rg : RgT) (I : II) (L : LL) (A : AS) (f a b c0 d : Int32) (hss : isSS rg) (hRC : RC A I L) (hok : aok A) : CtL l yX6_value cX6_value 7 (some FieldType.long) 8 G rg I L [.ref (gB G + 0), .int f, .int a, .int b, .int c0, .int d] (fun r I1 L1 => r = valueR A f a b c0 d ∧ RC A I1 L1) := by
  refine ctL_of [some (.ref (gB G + 0)), some (.int f), some (.int a), some (.int b), some (.int c0), some (.int d), none] rfl (Nat.le_of_ble_eq_true rfl) (by decide) ?_
  intro p e s m args below meth c C hr
  obtain ⟨so1, so2, so3, so4, so5, so6, so7, so8, so9, so10, so11, so12⟩ := id hss
  obtain ⟨rN, rF, rP, rV, rT, rX, rx0, rXv, rE⟩ := id hRC
  obtain ⟨kN, kN4, kF, kT, kT0, kP⟩ := id hok
  refine j_aload_n C dX6_value_0 rfl rfl ?_
  refine j_iload_n C dX6_value_1 rfl rfl ?_
  refine g_cvI C vc_X6_84 (c_X6_isForm l G rg _ _ A _ hss hRC hok) ⟨Nat.le_of_ble_eq_true rfl, Nat.le_of_ble_eq_true rfl⟩ (by assumption) rfl rfl (Nat.le_of_ble_eq_true rfl) ⟨Nat.zero_le _, Nat.zero_le _⟩ dX6_value_2 (fun r_2 I_2 L_2 p_2 => ?_)
  obtain ⟨rfl, rfl, rfl⟩ := p_2
  first | refine n_if_ne (tgt := 12) C dX6_value_5 (by decide) (fun h_5 => ?_) (fun h_5 => ?_) | refine j_if_ne (tgt := 12) C dX6_value_5 (by decide) (fun h_5 => ?_) (fun h_5 => ?_)
  · refine j_aload_n C dX6_value_12 rfl rfl ?_
    refine g_getR C (by assumption) fl_X6_19 (by rfl) dX6_value_13 ?_
    refine j_iconst (v := nI 0) C dX6_value_16 (by decide) ?_
    refine j_lconst (v := 1) C dX6_value_17 (by decide) ?_
    refine g_last C (so4) (by omega) (by decide) dX6_value_18 ?_
    refine j_aload_n C dX6_value_19 rfl rfl ?_
    refine g_getR C (by assumption) fl_X6_19 (by rfl) dX6_value_20 ?_
    refine j_iconst (v := nI 1) C dX6_value_23 (by decide) ?_
    refine j_iload_n C dX6_value_24 rfl rfl ?_
    refine j_i2l C dX6_value_25 ?_
    refine g_last C (so4) (by omega) (by decide) dX6_value_26 ?_
    refine j_aload_n C dX6_value_27 rfl rfl ?_
    refine g_getR C (by assumption) fl_X6_19 (by rfl) dX6_value_28 ?_
    refine j_iconst (v := nI 2) C dX6_value_31 (by decide) ?_
    refine j_iload_n C dX6_value_32 rfl rfl ?_
    refine j_i2l C dX6_value_33 ?_
    refine g_last C (so4) (by omega) (by decide) dX6_value_34 ?_
    refine j_aload_n C dX6_value_35 rfl rfl ?_
    refine g_getR C (by assumption) fl_X6_19 (by rfl) dX6_value_36 ?_
    refine j_iconst (v := nI 3) C dX6_value_39 (by decide) ?_
    refine j_iload C dX6_value_40 rfl ?_
    refine j_i2l C dX6_value_42 ?_
    refine g_last C (so4) (by omega) (by decide) dX6_value_43 ?_
    refine j_aload_n C dX6_value_44 rfl rfl ?_
    refine g_getR C (by assumption) fl_X6_19 (by rfl) dX6_value_45 ?_
    refine j_iconst (v := nI 4) C dX6_value_48 (by decide) ?_
    refine j_iload C dX6_value_49 rfl ?_
    refine j_i2l C dX6_value_51 ?_
    refine g_last C (so4) (by omega) (by decide) dX6_value_52 ?_
    refine j_iconst (v := nI 1) C dX6_value_53 (by decide) ?_
    refine j_istore C dX6_value_54 (by decide) ?_
    obtain ⟨L5, hL5⟩ : ∃ L5, L5 = (up2 (up2 (up2 (up2 (up2 L 3 0 1) 3 1 a.toInt64) 3 2 b.toInt64) 3 3 c0.toInt64) 3 4 d.toInt64) := ⟨_, rfl⟩
    refine t_IL rfl hL5.symm ?_
    have hF5 : Fm 3 4 L L5 := by rw [hL5]; exact up2_I (up2_I (up2_I (up2_I (up2_I Fm.rf (by omega) (by omega)) (by omega) (by omega)) (by omega) (by omega)) (by omega) (by omega)) (by omega) (by omega)
    have hW5 : ∀ k, k < 5 → L5 3 k = wh5 a b c0 d k := fun k hk => by rw [hL5]; simp only [up2_at, if_true, wh5]; rcases (show k = 0 ∨ k = 1 ∨ k = 2 ∨ k = 3 ∨ k = 4 by omega) with rfl | rfl | rfl | rfl | rfl <;> simp
    have hRC5 := RC_whole hRC hok hF5
    have lp : ∀ (fuel : Nat) (k : Nat), aN A + 1 < fuel + k → k ≤ aN A + 1 → 1 ≤ k → (∀ q, 1 ≤ q → q < k → ¬ wh5 a b c0 d q < -1000 ∧ wh5 a b c0 d q ≤ 1000) → J p l e (rmD 8) s m args below meth c (MQ below (QL G rg (fun r I1 L1 => r = valueR A f a b c0 d ∧ RC A I1 L1)) args s 0 0 (rg_A G rg)) 7 G rg 0 0 I L5 56 [some (.ref (gB G + 0)), some (.int f), some (.int a), some (.int b), some (.int c0), some (.int d), some (.int (nI k))] [] := by
      intro fuel
      induction fuel with
      | zero => intro k h1 h0 h2 hC; exfalso; omega
      | succ fuel ih_lp =>
        intro k h1 h0 h2 hC
        refine j_iload C dX6_value_56 rfl ?_
        refine j_aload_n C dX6_value_58 rfl rfl ?_
        refine g_getI C (by assumption) fl_X6_60 (by rfl) dX6_value_59 ?_
        refine t_i rN ?_
        first | refine n_icmp_gt (tgt := 103) C (by omega) (by omega) dX6_value_62 (by decide) (fun h_62 => ?_) (fun h_62 => ?_) | refine j_icmp_gt (tgt := 103) C dX6_value_62 (by decide) (fun h_62 => ?_) (fun h_62 => ?_)
        · refine j_aload_n C dX6_value_103 rfl rfl ?_
          obtain ⟨hf, hfn⟩ := okF_t h_5
          have hfm := so12 f.toNatClampNeg (by omega)
          refine g_getR C (by assumption) fl_X6_11 (by rfl) dX6_value_104 ?_
          refine j_iload_n C dX6_value_107 rfl rfl ?_
          refine t_i hf ?_
          refine g_aald5 C (so2) (by omega) (by decide) (by rfl) (by omega) dX6_value_108 ?_
          refine j_aload_n C dX6_value_109 rfl rfl ?_
          refine g_getR C (by assumption) fl_X6_19 (by rfl) dX6_value_110 ?_
          refine j_aload_n C dX6_value_113 rfl rfl ?_
          refine g_getI C (by assumption) fl_X6_60 (by rfl) dX6_value_114 ?_
          refine t_i rN ?_
          refine g_cvL C vc_X6_104 (c_X1_atWhole l G rg _ _ _ _ _ hfm so4 (by omega)) ⟨Nat.le_of_ble_eq_true rfl, Nat.le_of_ble_eq_true rfl⟩ (hfm.1) rfl rfl (Nat.le_of_ble_eq_true rfl) ⟨Nat.zero_le _, Nat.zero_le _⟩ dX6_value_117 (fun r_117 I_117 L_117 p_117 => ?_)
          obtain ⟨rfl, rfl, rfl⟩ := p_117
          exact j_lret C hr dX6_value_120 (⟨by unfold valueR; rw [cif_t ⟨h_5, fun q q1 q2 => hC q q1 (by omega)⟩]; exact inI_cong (by omega) (fun q hq => by rw [show 202 + 2 * f.toNatClampNeg + 1 = 203 + 2 * f.toNatClampNeg by omega]; exact rV _ _ (by omega) hq) (fun q hq => hW5 q (by omega)) _ _, hRC5⟩)
        · refine j_aload_n C dX6_value_65 rfl rfl ?_
          refine g_getR C (by assumption) fl_X6_19 (by rfl) dX6_value_66 ?_
          refine j_iload C dX6_value_69 rfl ?_
          refine g_lald C (so4) (by omega) (by decide) dX6_value_71 ?_
          refine t_l (hW5 k (by omega)) ?_
          refine j_ldc2 C kc_X6_100 dX6_value_72 ?_
          refine j_lc_lt (tgt := 93) C dX6_value_75 dX6_value_76 (by decide) (fun h_76 => ?_) (fun h_76 => ?_)
          · refine j_ldc2 C kc_X6_98 dX6_value_93 ?_
            exact j_lret C hr dX6_value_96 (⟨by unfold valueR; rw [cif_f (by first | exact vb1 h2 (by omega) h_76 | exact vb2 h2 (by omega) h_90)], hRC5⟩)
          · refine j_aload_n C dX6_value_79 rfl rfl ?_
            refine g_getR C (by assumption) fl_X6_19 (by rfl) dX6_value_80 ?_
            refine j_iload C dX6_value_83 rfl ?_
            refine g_lald C (so4) (by omega) (by decide) dX6_value_85 ?_
            refine t_l (hW5 k (by omega)) ?_
            refine j_ldc2 C kc_X6_102 dX6_value_86 ?_
            refine j_lc_le (tgt := 97) C dX6_value_89 dX6_value_90 (by decide) (fun h_90 => ?_) (fun h_90 => ?_)
            · first | refine n_iinc (n := 1) C dX6_value_97 rfl (by decide) ?_ | refine j_iinc C dX6_value_97 rfl rfl (by decide) ?_
              refine j_goto (tgt := 56) C dX6_value_100 (by decide) ?_
              exact ih_lp (k + 1) (by omega) (by omega) (by omega) (fun q q1 q2 => by by_cases e : q = k; (subst e; exact ⟨h_76, h_90⟩); exact hC q q1 (by omega))
            · refine j_ldc2 C kc_X6_98 dX6_value_93 ?_
              exact j_lret C hr dX6_value_96 (⟨by unfold valueR; rw [cif_f (by first | exact vb1 h2 (by omega) h_76 | exact vb2 h2 (by omega) h_90)], hRC5⟩)
    exact lp (aN A + 1) 1 (by omega) (by omega) (by omega) (fun q q1 q2 => by omega)
  · refine j_ldc2 C kc_X6_98 dX6_value_8 ?_
    exact j_lret C hr dX6_value_11 (⟨by unfold valueR; rw [cif_f (fun q => by rw [q.1] at h_5; cases h_5)], hRC⟩)

set_option maxHeartbeats 4000000 in
set_option maxRecDepth 20000 in
theorem c_X6_startTelling (l : Launch) (G : GT) (rg : RgT) (I : II) (L : LL) (g cn : Int32) (np : Nat) (hss : isSS rg) (rP : I 0 12 = nI np) : CtV l yX6_startTelling cX6_startTelling 3 none 2 G rg I L [.ref (gB G + 0), .int g, .int cn] (fun I1 L1 => L = L1 ∧ (∀ q, q ≠ 0 → q ≠ 2 → I1 q = I q) ∧ (∀ k, k ≠ 12 → I1 0 k = I 0 k) ∧ I1 0 12 = nI (np + 1) ∧ ∀ k, k < 7 → I1 2 k = stT g cn k) := by
  refine ctV_of [some (.ref (gB G + 0)), some (.int g), some (.int cn)] rfl (Nat.le_of_ble_eq_true rfl) (by decide) ?_
  intro p e s m args below meth c C hr
  obtain ⟨so1, so2, so3, so4, so5, so6, so7, so8, so9, so10, so11, so12⟩ := id hss
  refine j_aload_n C dX6_startTelling_0 rfl rfl ?_
  refine g_getR C (by assumption) fl_X6_15 (by rfl) dX6_startTelling_1 ?_
  refine j_iconst (v := (0)) C dX6_startTelling_4 (by decide) ?_
  refine j_csV C sc_X6_71 (c_fill l G rg _ _ _ _ _ so3 (by decide)) ⟨Nat.le_of_ble_eq_true rfl, Nat.le_of_ble_eq_true rfl⟩ rfl rfl (Nat.le_of_ble_eq_true rfl) ⟨Nat.zero_le _, Nat.zero_le _⟩ dX6_startTelling_5 (fun I_5 L_5 p_5 => ?_)
  obtain ⟨rfl, rfl⟩ := p_5
  refine j_aload_n C dX6_startTelling_8 rfl rfl ?_
  refine g_getR C (by assumption) fl_X6_15 (by rfl) dX6_startTelling_9 ?_
  refine j_iconst (v := nI 2) C dX6_startTelling_12 (by decide) ?_
  refine j_iload_n C dX6_startTelling_13 rfl rfl ?_
  refine g_iast C (so3) (by omega) (by decide) dX6_startTelling_14 ?_
  refine j_aload_n C dX6_startTelling_15 rfl rfl ?_
  refine g_getR C (by assumption) fl_X6_15 (by rfl) dX6_startTelling_16 ?_
  refine j_iconst (v := nI 3) C dX6_startTelling_19 (by decide) ?_
  refine j_iload_n C dX6_startTelling_20 rfl rfl ?_
  refine g_iast C (so3) (by omega) (by decide) dX6_startTelling_21 ?_
  refine j_aload_n C dX6_startTelling_22 rfl rfl ?_
  refine g_getR C (by assumption) fl_X6_15 (by rfl) dX6_startTelling_23 ?_
  refine j_iconst (v := nI 5) C dX6_startTelling_26 (by decide) ?_
  refine j_iconst (v := nI 1) C dX6_startTelling_27 (by decide) ?_
  refine g_iast C (so3) (by omega) (by decide) dX6_startTelling_28 ?_
  refine j_aload_n C dX6_startTelling_29 rfl rfl ?_
  refine j_dup C dX6_startTelling_30 rfl ?_
  refine g_getI C (by assumption) fl_X6_67 (by rfl) dX6_startTelling_31 ?_
  refine t_i (y := nI np) (by rw [up2_ne _ (by omega), up2_ne _ (by omega), up2_ne _ (by omega), va_up_ne _ _ (by omega)]; exact rP) ?_
  refine j_iconst (v := nI 1) C dX6_startTelling_34 (by decide) ?_
  first | refine n_iadd C dX6_startTelling_35 ?_ | refine j_iadd C dX6_startTelling_35 ?_
  refine g_putI C (by assumption) fw_X6_67 (by rfl) rfl (fits_int _) dX6_startTelling_36 ?_
  refine j_vret C hr dX6_startTelling_39 ⟨rfl, fun q h0 h2 => ?_, fun k hk => ?_, ?_, fun k hk => ?_⟩
  · rw [up2_ne _ h0, up2_ne _ h2, up2_ne _ h2, up2_ne _ h2, va_up_ne _ _ h2]
  · rw [up2_at, if_pos rfl, if_neg hk, up2_ne _ (by omega), up2_ne _ (by omega), up2_ne _ (by omega), va_up_ne _ _ (by omega)]
  · rw [up2_at, if_pos rfl, if_pos rfl]
  · rw [up2_ne _ (by omega)]; simp only [up2_at, if_true, va_up_self, stT]; rcases (show k = 0 ∨ k = 1 ∨ k = 2 ∨ k = 3 ∨ k = 4 ∨ k = 5 ∨ k = 6 by omega) with rfl | rfl | rfl | rfl | rfl | rfl | rfl <;> simp <;> rfl

set_option maxHeartbeats 4000000 in
set_option maxRecDepth 20000 in
theorem c_X6_endTelling (l : Launch) (G : GT) (rg : RgT) (I : II) (L : LL) (c0 : Nat) (hss : isSS rg) (hc0 : c0 < 2 ^ 31) : CtI l yX6_endTelling cX6_endTelling 2 (some FieldType.int) 1 G rg I L [.ref (gB G + 0), .int (nI c0)] (fun r I1 L1 => L = L1 ∧ r = nI c0 ∧ (∀ q, q ≠ 2 → q ≠ 190 → I1 q = I q) ∧ (∀ k, 2 ≤ k → I1 2 k = I 2 k) ∧ I1 2 0 = nI c0 ∧ I1 2 1 = (if c0 = 1 then I 32 7 else 0) ∧ I1 190 3 = b2i (decide (c0 = 0))) := by
  refine ctI_of [some (.ref (gB G + 0)), some (.int (nI c0))] rfl (Nat.le_of_ble_eq_true rfl) (by decide) ?_
  intro p e s m args below meth c C hr
  obtain ⟨so1, so2, so3, so4, so5, so6, so7, so8, so9, so10, so11, so12⟩ := id hss
  obtain ⟨po1, po2, po3, po4, po5⟩ := id so8
  obtain ⟨eo1, eo2⟩ := id so6
  refine j_aload_n C dX6_endTelling_0 rfl rfl ?_
  refine g_getR C (by assumption) fl_X6_15 (by rfl) dX6_endTelling_1 ?_
  refine j_iconst (v := nI 0) C dX6_endTelling_4 (by decide) ?_
  refine j_iload_n C dX6_endTelling_5 rfl rfl ?_
  refine g_iast C (so3) (by omega) (by decide) dX6_endTelling_6 ?_
  refine j_aload_n C dX6_endTelling_7 rfl rfl ?_
  refine g_getR C (by assumption) fl_X6_15 (by rfl) dX6_endTelling_8 ?_
  refine j_iconst (v := nI 1) C dX6_endTelling_11 (by decide) ?_
  refine j_iload_n C dX6_endTelling_12 rfl rfl ?_
  refine j_iconst (v := nI 1) C dX6_endTelling_13 (by decide) ?_
  first | refine n_icmp_ne (tgt := 27) C (by omega) (by omega) dX6_endTelling_14 (by decide) (fun h_14 => ?_) (fun h_14 => ?_) | refine j_icmp_ne (tgt := 27) C dX6_endTelling_14 (by decide) (fun h_14 => ?_) (fun h_14 => ?_)
  · refine j_iconst (v := nI 0) C dX6_endTelling_27 (by decide) ?_
    refine g_iast C (so3) (by omega) (by decide) dX6_endTelling_28 ?_
    refine j_aload_n C dX6_endTelling_29 rfl rfl ?_
    refine g_getR C (by assumption) fl_X6_43 (by rfl) dX6_endTelling_30 ?_
    refine j_iload_n C dX6_endTelling_33 rfl rfl ?_
    refine j_if_ne (tgt := 41) C dX6_endTelling_34 (by decide) (fun h_34 => ?_) (fun h_34 => ?_)
    · refine j_iconst (v := nI 0) C dX6_endTelling_41 (by decide) ?_
      refine g_putI C (po1) fw_X6_77 (by rfl) rfl (rfl) dX6_endTelling_42 ?_
      refine j_iload_n C dX6_endTelling_45 rfl rfl ?_
      refine j_iret C hr dX6_endTelling_46 ⟨rfl, rfl, fun q h2 h190 => ?_, fun k hk => ?_, ?_, ?_, ?_⟩
      · rw [up2_ne _ h190, up2_ne _ h2, up2_ne _ h2]
      · rw [up2_ne _ (by omega), up2_at, if_pos rfl, if_neg (by omega), up2_at, if_pos rfl, if_neg (by omega)]
      · rw [up2_ne _ (by omega), up2_at, if_pos rfl, if_neg (by omega), up2_at, if_pos rfl, if_pos rfl]
      · rw [up2_ne _ (by omega), up2_at, if_pos rfl, if_pos rfl]; first | rw [if_pos h_14] | (rw [if_neg h_14]; rfl)
      · rw [up2_at, if_pos rfl, if_pos rfl]; by_cases e : c0 = 0
        · rw [decide_eq_true e]; first | rfl | exact absurd (by rw [e]; rfl) h_34
        · rw [decide_eq_false e]; first | rfl | exact absurd h_34 (nI_ne0 (by omega) hc0)
    · refine j_iconst (v := nI 1) C dX6_endTelling_37 (by decide) ?_
      refine j_goto (tgt := 42) C dX6_endTelling_38 (by decide) ?_
      refine g_putI C (po1) fw_X6_77 (by rfl) rfl (rfl) dX6_endTelling_42 ?_
      refine j_iload_n C dX6_endTelling_45 rfl rfl ?_
      refine j_iret C hr dX6_endTelling_46 ⟨rfl, rfl, fun q h2 h190 => ?_, fun k hk => ?_, ?_, ?_, ?_⟩
      · rw [up2_ne _ h190, up2_ne _ h2, up2_ne _ h2]
      · rw [up2_ne _ (by omega), up2_at, if_pos rfl, if_neg (by omega), up2_at, if_pos rfl, if_neg (by omega)]
      · rw [up2_ne _ (by omega), up2_at, if_pos rfl, if_neg (by omega), up2_at, if_pos rfl, if_pos rfl]
      · rw [up2_ne _ (by omega), up2_at, if_pos rfl, if_pos rfl]; first | rw [if_pos h_14] | (rw [if_neg h_14]; rfl)
      · rw [up2_at, if_pos rfl, if_pos rfl]; by_cases e : c0 = 0
        · rw [decide_eq_true e]; first | rfl | exact absurd (by rw [e]; rfl) h_34
        · rw [decide_eq_false e]; first | rfl | exact absurd h_34 (nI_ne0 (by omega) hc0)
  · refine j_aload_n C dX6_endTelling_17 rfl rfl ?_
    refine g_getR C (by assumption) fl_X6_33 (by rfl) dX6_endTelling_18 ?_
    refine g_getI C (eo1) fl_X6_216 (by rfl) dX6_endTelling_21 ?_
    refine t_i (y := I 32 7) (by rw [up2_ne _ (by omega)]) ?_
    refine j_goto (tgt := 28) C dX6_endTelling_24 (by decide) ?_
    refine g_iast C (so3) (by omega) (by decide) dX6_endTelling_28 ?_
    refine j_aload_n C dX6_endTelling_29 rfl rfl ?_
    refine g_getR C (by assumption) fl_X6_43 (by rfl) dX6_endTelling_30 ?_
    refine j_iload_n C dX6_endTelling_33 rfl rfl ?_
    refine j_if_ne (tgt := 41) C dX6_endTelling_34 (by decide) (fun h_34 => ?_) (fun h_34 => ?_)
    · refine j_iconst (v := nI 0) C dX6_endTelling_41 (by decide) ?_
      refine g_putI C (po1) fw_X6_77 (by rfl) rfl (rfl) dX6_endTelling_42 ?_
      refine j_iload_n C dX6_endTelling_45 rfl rfl ?_
      refine j_iret C hr dX6_endTelling_46 ⟨rfl, rfl, fun q h2 h190 => ?_, fun k hk => ?_, ?_, ?_, ?_⟩
      · rw [up2_ne _ h190, up2_ne _ h2, up2_ne _ h2]
      · rw [up2_ne _ (by omega), up2_at, if_pos rfl, if_neg (by omega), up2_at, if_pos rfl, if_neg (by omega)]
      · rw [up2_ne _ (by omega), up2_at, if_pos rfl, if_neg (by omega), up2_at, if_pos rfl, if_pos rfl]
      · rw [up2_ne _ (by omega), up2_at, if_pos rfl, if_pos rfl]; first | rw [if_pos h_14] | (rw [if_neg h_14]; rfl)
      · rw [up2_at, if_pos rfl, if_pos rfl]; by_cases e : c0 = 0
        · rw [decide_eq_true e]; first | rfl | exact absurd (by rw [e]; rfl) h_34
        · rw [decide_eq_false e]; first | rfl | exact absurd h_34 (nI_ne0 (by omega) hc0)
    · refine j_iconst (v := nI 1) C dX6_endTelling_37 (by decide) ?_
      refine j_goto (tgt := 42) C dX6_endTelling_38 (by decide) ?_
      refine g_putI C (po1) fw_X6_77 (by rfl) rfl (rfl) dX6_endTelling_42 ?_
      refine j_iload_n C dX6_endTelling_45 rfl rfl ?_
      refine j_iret C hr dX6_endTelling_46 ⟨rfl, rfl, fun q h2 h190 => ?_, fun k hk => ?_, ?_, ?_, ?_⟩
      · rw [up2_ne _ h190, up2_ne _ h2, up2_ne _ h2]
      · rw [up2_ne _ (by omega), up2_at, if_pos rfl, if_neg (by omega), up2_at, if_pos rfl, if_neg (by omega)]
      · rw [up2_ne _ (by omega), up2_at, if_pos rfl, if_neg (by omega), up2_at, if_pos rfl, if_pos rfl]
      · rw [up2_ne _ (by omega), up2_at, if_pos rfl, if_pos rfl]; first | rw [if_pos h_14] | (rw [if_neg h_14]; rfl)
      · rw [up2_at, if_pos rfl, if_pos rfl]; by_cases e : c0 = 0
        · rw [decide_eq_true e]; first | rfl | exact absurd (by rw [e]; rfl) h_34
        · rw [decide_eq_false e]; first | rfl | exact absurd h_34 (nI_ne0 (by omega) hc0)
