/-! ===== near: bits, doubleToLongBits, near of both ===== -/
theorem wb_tb (n : Nat) : (lN n).toBitVec = BitVec.ofNat 64 n := rfl
theorem wb_inj {a b : Int64} (h : a.toBitVec = b.toBitVec) : a = b := Int64.toBitVec_inj.mp h
theorem wb_c : ∀ k, k < 64 → ((nI k).toInt64 &&& 63) = lN k := by decide +kernel
theorem wb_sm : ∀ k, k < 64 → (BitVec.ofNat 64 k).smod 64 = BitVec.ofNat 64 k := by decide +kernel
theorem wb_shl (n : Nat) {k : Nat} (hk : k < 64) : lN n <<< ((nI k).toInt64 &&& 63) = lN (n * 2 ^ k) := by
  rw [wb_c k hk]
  apply wb_inj
  rw [Int64.toBitVec_shiftLeft, wb_tb, wb_tb, wb_tb, wb_sm k hk]
  apply BitVec.eq_of_toNat_eq
  rw [BitVec.shiftLeft_eq', BitVec.toNat_shiftLeft, BitVec.toNat_ofNat, BitVec.toNat_ofNat, BitVec.toNat_ofNat, Nat.mod_eq_of_lt (show k < 2 ^ 64 by omega), Nat.shiftLeft_eq, Nat.mul_mod, Nat.mod_mod, ← Nat.mul_mod]
theorem wb_or {a b : Nat} (ha : a < 2 ^ 64) (hb : b < 2 ^ 64) : lN a ||| lN b = lN (a ||| b) := by
  apply wb_inj
  rw [Int64.toBitVec_or, wb_tb, wb_tb, wb_tb]
  apply BitVec.eq_of_toNat_eq
  rw [BitVec.toNat_or, BitVec.toNat_ofNat, BitVec.toNat_ofNat, BitVec.toNat_ofNat, Nat.mod_eq_of_lt ha, Nat.mod_eq_of_lt hb, Nat.mod_eq_of_lt (Nat.or_lt_two_pow ha hb)]
theorem lN_a (a b : Nat) : lN (a + b) = lN a + lN b := Int64.ofNat_add a b
theorem lN_s (a : Nat) : lN a + 1 = lN (a + 1) := (lN_a a 1).symm
theorem lN_m (a : Nat) : lN (a + 1) - 1 = lN a := by rw [← lN_s, Int64.add_sub_cancel]
theorem lN_52 (t : Nat) : lN (4503599627370496 + t) - 4503599627370496 = lN t := by
  rw [lN_a, Int64.add_comm]
  exact Int64.add_sub_cancel _ _
theorem fin_b {s : Bool} {E t : Nat} (hE : E < 2048) (ht : t < 4503599627370496) : (((if s = true then (-9223372036854775808 : Int64) else 0) ||| (lN E <<< ((nI 52).toInt64 &&& 63))) ||| lN t) = (fpu s E t).toInt64 := by
  have e1 : (if s = true then (-9223372036854775808 : Int64) else 0) = lN (9223372036854775808 * s.toNat) := by cases s <;> decide
  have hs : s.toNat ≤ 1 := by cases s <;> decide
  rw [e1, wb_shl E (by decide), wb_or (by omega) (by show E * 4503599627370496 < 18446744073709551616; omega)]
  have o1 : 9223372036854775808 * s.toNat ||| E * 2 ^ 52 = 9223372036854775808 * s.toNat + E * 2 ^ 52 := (Nat.two_pow_add_eq_or_of_lt (i := 63) (b := E * 2 ^ 52) (by show E * 4503599627370496 < 9223372036854775808; omega) s.toNat).symm
  rw [o1, wb_or (by show 9223372036854775808 * s.toNat + E * 4503599627370496 < 18446744073709551616; omega) (by omega)]
  have o2 : (9223372036854775808 * s.toNat + E * 2 ^ 52) ||| t = fpn s E t := by
    have q := (Nat.two_pow_add_eq_or_of_lt (i := 52) (b := t) ht (2048 * s.toNat + E)).symm
    rw [show 2 ^ 52 * (2048 * s.toNat + E) = 9223372036854775808 * s.toNat + E * 2 ^ 52 by show 4503599627370496 * (2048 * s.toNat + E) = 9223372036854775808 * s.toNat + E * 4503599627370496; omega] at q
    rw [q]
    unfold fpn
    show 9223372036854775808 * s.toNat + E * 4503599627370496 + t = _
    omega
  rw [o2]
  rfl
theorem db_ss {d : UInt64} (h : isDb d) {op : CmpOp} : Op.cmpValue (FP.dcmp d d) op = 0 := by
  rcases h with h | ⟨s, E, t, rfl, h1, h2, h3⟩
  · rw [h]; exact cmp_00
  · exact cmp_ss (by omega) (by omega) h1
theorem j_raw {p : Program} {l : Launch} {e : Env} {R : Room} {s : State} {m : MethodId} {args : Array Value} {below : List Frame} {meth : Method} {c : Code} {Q : State → Prop} {cc : ByteArray} {nL : Nat} {own : String} {G : GT} {rg : RgT} {kc ks : Nat} {I : II} {L : LL} {pc : Nat} {lv : LV} {st : List Value} (C : Cx p s m args meth c cc nL own G) {idx : Nat} {b : UInt64} (hl : Cond.methodLink own idx ⟨"java/lang/Double", "doubleToRawLongBits", "(D)J"⟩ ∈ tblG) (h1 : Cond.native ⟨"java/lang/Double", "doubleToRawLongBits", "(D)J"⟩ ∈ tblG) (h2 : Cond.static ⟨"java/lang/Double", "doubleToRawLongBits", "(D)J"⟩ ∈ tblG) (h3 : Cond.initialized "java/lang/Double" ∈ tblG) (hf : 1 ≤ R.frames) (hw : (st.map fun v => v.category).sum + 15 ≤ R.locals) (d : decode cc pc = .ok (.invokestatic idx, 3)) (k : J p l e R s m args below meth c Q nL G rg kc ks I L (pc + 3) lv (.long b.toInt64 :: st)) : J p l e R s m args below meth c Q nL G rg kc ks I L pc lv (.double b :: st) := fun H locs ls hP hS hl2 => vn_d2l C.1 C.2.1 (C.2.2.1.trans hl2.1.symm) C.2.2.2.1 (C.2.2.2.2.1 _ hl) (C.2.2.2.2.1 _ h1) (C.2.2.2.2.1 _ h2) (C.2.2.2.2.1 _ h3) hf hw d (k H locs ls hP hS hl2)
theorem rw_l : Cond.methodLink RJxe99ae 134 ⟨"java/lang/Double", "doubleToRawLongBits", "(D)J"⟩ ∈ tblG := mt 866 (by decide +kernel) rfl
theorem rw_n : Cond.native ⟨"java/lang/Double", "doubleToRawLongBits", "(D)J"⟩ ∈ tblG := mt 868 (by decide +kernel) rfl
theorem rw_s : Cond.static ⟨"java/lang/Double", "doubleToRawLongBits", "(D)J"⟩ ∈ tblG := mt 867 (by decide +kernel) rfl
theorem rw_i : Cond.initialized "java/lang/Double" ∈ tblG := mt 13 (by decide +kernel) rfl
set_option maxHeartbeats 4000000 in
set_option maxRecDepth 20000 in
theorem c_isNaN (l : Launch) (G : GT) (rg : RgT) (I : II) (L : LL) (dd : UInt64) (hd : isDb dd) : CtI l yJxe99ae_isNaN_b9ae7 cJxe99ae_isNaN_b9ae7 2 (some FieldType.boolean) 1 G rg I L [.double dd] (fun r I1 L1 => r = b2i false ∧ I = I1 ∧ L = L1) := by
  refine ctI_of [some (.double dd), none] rfl (Nat.le_of_ble_eq_true rfl) (by decide) ?_
  intro p e s m args below meth c C hr
  refine j_dload_n C dJxe99ae_isNaN_b9ae7_0 rfl rfl ?_
  refine j_dload_n C dJxe99ae_isNaN_b9ae7_1 rfl rfl ?_
  refine j_dcmp C dJxe99ae_isNaN_b9ae7_2 ?_
  refine t_i (db_ss hd) ?_
  refine j_if_eq (tgt := 10) C dJxe99ae_isNaN_b9ae7_3 (by decide) (fun h_3 => ?_) (fun h_3 => ?_)
  · refine j_iconst (v := nI 0) C dJxe99ae_isNaN_b9ae7_10 (by decide) ?_
    exact j_zret C hr (by first | rfl | exact b2i_n _ rfl) dJxe99ae_isNaN_b9ae7_11 (⟨rfl, rfl, rfl⟩)
  · exact absurd rfl h_3

set_option maxHeartbeats 4000000 in
set_option maxRecDepth 20000 in
theorem c_d2lb (l : Launch) (G : GT) (rg : RgT) (I : II) (L : LL) (dd : UInt64) (hd : isDb dd) : CtL l yJxe99ae_doubleToLongBits_ccdee cJxe99ae_doubleToLongBits_ccdee 2 (some FieldType.long) 2 G rg I L [.double dd] (fun r I1 L1 => r = dd.toInt64 ∧ I = I1 ∧ L = L1) := by
  refine ctL_of [some (.double dd), none] rfl (Nat.le_of_ble_eq_true rfl) (by decide) ?_
  intro p e s m args below meth c C hr
  refine j_dload_n C dJxe99ae_doubleToLongBits_ccdee_0 rfl rfl ?_
  refine j_csI C sc_Jxe99ae_122 (c_isNaN l G rg _ _ dd hd) ⟨Nat.le_of_ble_eq_true rfl, Nat.le_of_ble_eq_true rfl⟩ rfl rfl (Nat.le_of_ble_eq_true rfl) ⟨Nat.zero_le _, Nat.zero_le _⟩ dJxe99ae_doubleToLongBits_ccdee_1 (fun r_1 I_1 L_1 p_1 => ?_)
  obtain ⟨rfl, rfl, rfl⟩ := p_1
  refine j_if_ne (tgt := 12) C dJxe99ae_doubleToLongBits_ccdee_4 (by decide) (fun h_4 => ?_) (fun h_4 => ?_)
  · exact absurd rfl h_4
  · refine j_dload_n C dJxe99ae_doubleToLongBits_ccdee_7 rfl rfl ?_
    refine j_raw C rw_l rw_n rw_s rw_i (Nat.le_of_ble_eq_true rfl) (Nat.le_of_ble_eq_true rfl) dJxe99ae_doubleToLongBits_ccdee_8 ?_
    exact j_lret C hr dJxe99ae_doubleToLongBits_ccdee_11 (⟨rfl, rfl, rfl⟩)

def nearR (A : AS) (x : Int32) : Int64 := if okS A x = true then (FP.ddiv (FP.l2d (eW (aE A) x.toNatClampNeg).1) (FP.l2d (eW (aE A) x.toNatClampNeg).2)).toInt64 else 0
set_option maxHeartbeats 4000000 in
set_option maxRecDepth 20000 in
theorem c_X7_near (l : Launch) (G : GT) (rg : RgT) (I : II) (L : LL) (A : AS) (x : Int32) (hms : isMS rg) (hRM : RM A I L) (hok : aok A) : CtL l yX7_near cX7_near 2 (some FieldType.long) 8 G rg I L [.ref (gB G + 0), .int x] (fun r I1 L1 => r = nearR A x ∧ I = I1 ∧ L = L1) := by
  refine ctL_of [some (.ref (gB G + 0)), some (.int x)] rfl (Nat.le_of_ble_eq_true rfl) (by decide) ?_
  intro p e s m args below meth c C hr
  obtain ⟨o0, a1, a2, a3, a4, a5, a6, a7, a8, a9, a10, a11, a12, a13, a14, a15, a16, a17, a18, a19, a20, a21, a22, a23, a24, a25, a26⟩ := id hms
  obtain ⟨mN, mF, mP, mV, mA, mS, mT, mH, m8, m7, mX, mE⟩ := id hRM
  obtain ⟨k1, k4, k12, kT, kT0, kP⟩ := id hok
  refine j_aload_n C dX7_near_0 rfl rfl ?_
  refine j_iload_n C dX7_near_1 rfl rfl ?_
  refine g_cvI C vc_X7_281 (c_X7_isSquare l G rg _ _ A x hms hRM hok) ⟨Nat.le_of_ble_eq_true rfl, Nat.le_of_ble_eq_true rfl⟩ (o0) rfl rfl (Nat.le_of_ble_eq_true rfl) ⟨Nat.zero_le _, Nat.zero_le _⟩ dX7_near_2 (fun r_2 I_2 L_2 p_2 => ?_)
  obtain ⟨rfl, rfl, rfl⟩ := p_2
  first | refine n_if_eq (tgt := 29) C dX7_near_5 (by decide) (fun h_5 => ?_) (fun h_5 => ?_) | refine j_if_eq (tgt := 29) C dX7_near_5 (by decide) (fun h_5 => ?_) (fun h_5 => ?_)
  · refine j_lconst (v := 0) C dX7_near_29 (by decide) ?_
    exact j_lret C hr dX7_near_30 (by refine ⟨?_, rfl, rfl⟩; unfold nearR; first | (rw [if_pos h_5, ← hxse]; done) | (rw [if_neg (by rw [h_5]; decide)]; done))
  · obtain ⟨hxe, h01, hxs, hs5⟩ := okS_t hok h_5
    obtain ⟨hRX, hFi⟩ := mE h01
    obtain ⟨xs, hxse⟩ : ∃ g, g = x.toNatClampNeg := ⟨_, rfl⟩
    rw [← hxse] at hxe hxs
    have hq := hRX.2 xs hxs
    have hWw : WF (eW (aE A) xs) := ((kT h01).1.2 xs hxs).2.1
    refine j_aload_n C dX7_near_8 rfl rfl ?_
    refine g_getR C (o0) fl_X7_40 (by rfl) dX7_near_9 ?_
    refine j_iload_n C dX7_near_12 rfl rfl ?_
    refine t_i hxe ?_
    refine g_lald C (a9) (by omega) (by decide) dX7_near_13 ?_
    refine t_l (congrArg Prod.fst hq.2.1) ?_
    refine j_l2d C dX7_near_14 ?_
    refine j_aload_n C dX7_near_15 rfl rfl ?_
    refine g_getR C (o0) fl_X7_43 (by rfl) dX7_near_16 ?_
    refine j_iload_n C dX7_near_19 rfl rfl ?_
    refine t_i hxe ?_
    refine g_lald C (a10) (by omega) (by decide) dX7_near_20 ?_
    refine t_l (congrArg Prod.snd hq.2.1) ?_
    refine j_l2d C dX7_near_21 ?_
    refine j_ddiv C dX7_near_22 (isDb_n (WF_db hWw)) ?_
    refine j_csL C sc_X7_284 (c_d2lb l G rg _ _ _ (WF_db hWw)) ⟨Nat.le_of_ble_eq_true rfl, Nat.le_of_ble_eq_true rfl⟩ rfl rfl (Nat.le_of_ble_eq_true rfl) ⟨Nat.zero_le _, Nat.zero_le _⟩ dX7_near_23 (fun r_23 I_23 L_23 p_23 => ?_)
    obtain ⟨rfl, rfl, rfl⟩ := p_23
    refine j_goto (tgt := 30) C dX7_near_26 (by decide) ?_
    exact j_lret C hr dX7_near_30 (by refine ⟨?_, rfl, rfl⟩; unfold nearR; first | (rw [if_pos h_5, ← hxse]; done) | (rw [if_neg (by rw [h_5]; decide)]; done))

set_option maxHeartbeats 4000000 in
set_option maxRecDepth 20000 in
theorem c_X6_bits (l : Launch) (G : GT) (rg : RgT) (I : II) (L : LL) (dd : UInt64) (hd : isDb dd) : CtL l yX6_bits cX6_bits 12 (some FieldType.long) 1 G rg I L [.double dd] (fun r I1 L1 => r = dd.toInt64 ∧ I = I1 ∧ L = L1) := by
  refine ctL_of [some (.double dd), none, none, none, none, none, none, none, none, none, none, none] rfl (Nat.le_of_ble_eq_true rfl) (by decide) ?_
  intro p e s m args below meth c C hr
  rcases hd with rfl | ⟨s0, E, t, rfl, ht, hE1, hE2⟩
  · refine j_dload_n C dX6_bits_0 rfl rfl ?_
    refine j_dconst0 C dX6_bits_1 ?_
    refine j_dcmp C dX6_bits_2 ?_
    refine t_i cmp_00 ?_
    refine j_if_ne (tgt := 8) C dX6_bits_3 (by decide) (fun h => absurd rfl h) (fun _ => ?_)
    refine j_lconst (v := 0) C dX6_bits_6 (by decide) ?_
    exact j_lret C hr dX6_bits_7 ⟨rfl, rfl, rfl⟩
  · have en : J p l e (rmD 1) s m args below meth c (MQ below (QL G rg (fun r I1 L1 => r = (fpu s0 E t).toInt64 ∧ I = I1 ∧ L = L1)) args s 0 0 (rg_A G rg)) 12 G rg 0 0 I L 127 [some (.double (fpu s0 E t)), none, some (.double (fpu false 1023 t)), none, some (.long (lN E)), none, some (.long 4503599627370496), none, some (.long (lN t)), none, some (.long (if s0 = true then -9223372036854775808 else 0)), none] [] := by
      refine j_lload C dX6_bits_127 rfl ?_
      refine j_lload C dX6_bits_129 rfl ?_
      refine j_bipush (v := nI 52) C dX6_bits_131 (by decide) ?_
      refine j_lshl C dX6_bits_133 ?_
      refine j_lor C dX6_bits_134 ?_
      refine j_lload C dX6_bits_135 rfl ?_
      refine j_lor C dX6_bits_137 ?_
      exact j_lret C hr dX6_bits_138 ⟨fin_b (by omega) ht, rfl, rfl⟩
    have e1 : J p l e (rmD 1) s m args below meth c (MQ below (QL G rg (fun r I1 L1 => r = (fpu s0 E t).toInt64 ∧ I = I1 ∧ L = L1)) args s 0 0 (rg_A G rg)) 12 G rg 0 0 I L 96 [some (.double (fpu s0 E t)), none, some (.double (fpu false 1023 t)), none, some (.long (lN E)), none, none, none, none, none, none, none] [] := by
      refine j_ldc2 C kc_X6_249 dX6_bits_96 ?_
      refine j_lstore C dX6_bits_99 (by decide) ?_
      refine j_dload_n C dX6_bits_101 rfl rfl ?_
      refine j_lload C dX6_bits_102 rfl ?_
      refine j_l2d C dX6_bits_104 ?_
      refine j_dmul C dX6_bits_105 (by rw [mul52 ht]; exact nn_n (by decide) ht) ?_
      rw [mul52 ht]
      refine j_d2l C dX6_bits_106 ?_
      refine t_l (d2l_n ht) ?_
      refine j_lload C dX6_bits_107 rfl ?_
      refine j_lsub C dX6_bits_109 ?_
      refine t_l (lN_52 t) ?_
      refine j_lstore C dX6_bits_110 (by decide) ?_
      refine j_dload_n C dX6_bits_112 rfl rfl ?_
      refine j_dconst0 C dX6_bits_113 ?_
      refine j_dcmp C dX6_bits_114 ?_
      refine t_i (cmp_0 (by omega) (by omega) ht) ?_
      refine j_if_ge (tgt := 124) C dX6_bits_115 (by decide) (fun h => ?_) (fun h => ?_)
      · have hs : s0 = false := by cases s0 with | false => rfl | true => exact absurd h (by decide)
        refine j_lconst (v := 0) C dX6_bits_124 (by decide) ?_
        refine j_lstore C dX6_bits_125 (by decide) ?_
        refine t_lv (show _ = _ from ?_) en
        rw [hs]; rfl
      · have hs : s0 = true := by cases s0 with | true => rfl | false => exact absurd (show (0 : Int32) ≤ 1 by decide) h
        refine j_ldc2 C kc_X6_251 dX6_bits_118 ?_
        refine j_goto (tgt := 125) C dX6_bits_121 (by decide) ?_
        refine j_lstore C dX6_bits_125 (by decide) ?_
        refine t_lv (show _ = _ from ?_) en
        rw [hs]; rfl
    have lb : ∀ (fuel k F : Nat), 64 < fuel + k → k ≤ 64 → 959 + k ≤ F → F ≤ 1023 → J p l e (rmD 1) s m args below meth c (MQ below (QL G rg (fun r I1 L1 => r = (fpu s0 E t).toInt64 ∧ I = I1 ∧ L = L1)) args s 0 0 (rg_A G rg)) 12 G rg 0 0 I L 65 [some (.double (fpu s0 E t)), none, some (.double (fpu false F t)), none, some (.long (lN (E + 1023 - F))), none, some (.int (nI k)), none, none, none, none, none] [] := by
      intro fuel
      induction fuel with
      | zero => intro k F h1 h2; exfalso; omega
      | succ fuel ih =>
        intro k F h1 h2 h3 h4
        have fin : F = 1023 → J p l e (rmD 1) s m args below meth c (MQ below (QL G rg (fun r I1 L1 => r = (fpu s0 E t).toInt64 ∧ I = I1 ∧ L = L1)) args s 0 0 (rg_A G rg)) 12 G rg 0 0 I L 96 [some (.double (fpu s0 E t)), none, some (.double (fpu false F t)), none, some (.long (lN (E + 1023 - F))), none, some (.int (nI k)), none, none, none, none, none] [] := by
          intro hF
          subst hF
          refine j_rm 6 ?_
          refine t_lv (show _ = _ from ?_) e1
          rw [show E + 1023 - 1023 = E by omega]; rfl
        refine j_iload C dX6_bits_65 rfl ?_
        refine j_bipush (v := nI 64) C dX6_bits_67 (by decide) ?_
        refine n_icmp_ge (tgt := 96) C (by omega) (by omega) dX6_bits_69 (by decide) (fun h => ?_) (fun h => ?_)
        · exact fin (by omega)
        · refine j_dload_n C dX6_bits_72 rfl rfl ?_
          refine j_dconst1 C dX6_bits_73 ?_
          refine j_dcmp C dX6_bits_74 ?_
          rw [one_f]
          by_cases hF : F < 1023
          · refine t_i (cmp_lt (by omega) hF (by decide) ht) ?_
            refine j_if_ge (tgt := 96) C dX6_bits_75 (by decide) (fun h => absurd h (by decide)) (fun _ => ?_)
            refine j_dload_n C dX6_bits_78 rfl rfl ?_
            refine j_ldc2d C kc_X6_247 dX6_bits_79 ?_
            refine j_dmul C dX6_bits_82 (by rw [dbl_n (by omega) (by omega) ht]; exact nn_n (by omega) ht) ?_
            rw [dbl_n (by omega) (by omega) ht]
            refine j_dstore_n C dX6_bits_83 rfl (by decide) ?_
            refine j_lload C dX6_bits_84 rfl ?_
            refine j_lconst (v := 1) C dX6_bits_86 (by decide) ?_
            refine j_lsub C dX6_bits_87 ?_
            refine t_l (y := lN (E + 1023 - (F + 1))) (by rw [show E + 1023 - F = (E + 1023 - (F + 1)) + 1 by omega]; exact lN_m _) ?_
            refine j_lstore C dX6_bits_88 (by decide) ?_
            refine n_iinc (n := 1) C dX6_bits_90 rfl (by decide) ?_
            refine j_goto (tgt := 65) C dX6_bits_93 (by decide) ?_
            exact ih (k + 1) (F + 1) (by omega) (by omega) (by omega) (by omega)
          · have hc := cmp_ge (op := .g) (F := 1023) (E := F) (by decide) (by omega) (by omega) ht
            refine j_if_ge (tgt := 96) C dX6_bits_75 (by decide) (fun _ => fin (by omega)) (fun h => absurd (Int32.not_lt.mp hc) h)
    have la : ∀ (fuel k F : Nat), 64 < fuel + k → k ≤ 64 → F + k = E → (k = 0 ∨ 1023 ≤ F) → J p l e (rmD 1) s m args below meth c (MQ below (QL G rg (fun r I1 L1 => r = (fpu s0 E t).toInt64 ∧ I = I1 ∧ L = L1)) args s 0 0 (rg_A G rg)) 12 G rg 0 0 I L 29 [some (.double (fpu s0 E t)), none, some (.double (fpu false F t)), none, some (.long (lN (1023 + k))), none, some (.int (nI k)), none, none, none, none, none] [] := by
      intro fuel
      induction fuel with
      | zero => intro k F h1 h2; exfalso; omega
      | succ fuel ih =>
        intro k F h1 h2 h3 h4
        have fin : F ≤ 1023 → J p l e (rmD 1) s m args below meth c (MQ below (QL G rg (fun r I1 L1 => r = (fpu s0 E t).toInt64 ∧ I = I1 ∧ L = L1)) args s 0 0 (rg_A G rg)) 12 G rg 0 0 I L 62 [some (.double (fpu s0 E t)), none, some (.double (fpu false F t)), none, some (.long (lN (1023 + k))), none, some (.int (nI k)), none, none, none, none, none] [] := by
          intro hF
          refine j_iconst (v := nI 0) C dX6_bits_62 (by decide) ?_
          refine j_istore C dX6_bits_63 (by decide) ?_
          refine t_lv (show _ = _ from ?_) (lb 65 0 F (by omega) (by omega) (by omega) hF)
          rw [show E + 1023 - F = 1023 + k by omega]; rfl
        refine j_iload C dX6_bits_29 rfl ?_
        refine j_bipush (v := nI 64) C dX6_bits_31 (by decide) ?_
        refine n_icmp_ge (tgt := 62) C (by omega) (by omega) dX6_bits_33 (by decide) (fun h => ?_) (fun h => ?_)
        · exact fin (by omega)
        · refine j_dload_n C dX6_bits_36 rfl rfl ?_
          refine j_ldc2d C kc_X6_247 dX6_bits_37 ?_
          refine j_dcmp C dX6_bits_40 ?_
          by_cases hF : F < 1024
          · refine t_i (y := -1) (by rw [two_f]; exact cmp_lt (by omega) hF (by decide) ht) ?_
            refine j_if_lt (tgt := 62) C dX6_bits_41 (by decide) (fun _ => fin (by omega)) (fun h => absurd (by decide) h)
          · have hc : ¬ Op.cmpValue (FP.dcmp (fpu false F t) 4611686018427387904) .l < 0 := by rw [two_f]; exact cmp_ge (by decide) (by omega) (by omega) ht
            refine j_if_lt (tgt := 62) C dX6_bits_41 (by decide) (fun h => absurd h hc) (fun _ => ?_)
            refine j_dload_n C dX6_bits_44 rfl rfl ?_
            refine j_ldc2d C kc_X6_247 dX6_bits_45 ?_
            refine j_ddiv C dX6_bits_48 (by rw [half_n (by omega) (by omega) ht]; exact nn_n (by omega) ht) ?_
            rw [half_n (by omega) (by omega) ht]
            refine j_dstore_n C dX6_bits_49 rfl (by decide) ?_
            refine j_lload C dX6_bits_50 rfl ?_
            refine j_lconst (v := 1) C dX6_bits_52 (by decide) ?_
            refine j_ladd C dX6_bits_53 ?_
            refine t_l (lN_s _) ?_
            refine j_lstore C dX6_bits_54 (by decide) ?_
            refine n_iinc (n := 1) C dX6_bits_56 rfl (by decide) ?_
            refine j_goto (tgt := 29) C dX6_bits_59 (by decide) ?_
            exact ih (k + 1) (F - 1) (by omega) (by omega) (by omega) (by omega)
    have s20 : J p l e (rmD 1) s m args below meth c (MQ below (QL G rg (fun r I1 L1 => r = (fpu s0 E t).toInt64 ∧ I = I1 ∧ L = L1)) args s 0 0 (rg_A G rg)) 12 G rg 0 0 I L 20 [some (.double (fpu s0 E t)), none, none, none, none, none, none, none, none, none, none, none] [.double (fpu false E t)] := by
      refine j_dstore_n C dX6_bits_20 rfl (by decide) ?_
      refine j_ldc2 C kc_X6_245 dX6_bits_21 ?_
      refine t_l (y := lN (1023 + 0)) rfl ?_
      refine j_lstore C dX6_bits_24 (by decide) ?_
      refine j_iconst (v := nI 0) C dX6_bits_26 (by decide) ?_
      refine j_istore C dX6_bits_27 (by decide) ?_
      exact la 65 0 E (by omega) (by omega) (by omega) (Or.inl rfl)
    refine j_dload_n C dX6_bits_0 rfl rfl ?_
    refine j_dconst0 C dX6_bits_1 ?_
    refine j_dcmp C dX6_bits_2 ?_
    refine t_i (cmp_0 (by omega) (by omega) ht) ?_
    refine j_if_ne (tgt := 8) C dX6_bits_3 (by decide) (fun _ => ?_) (fun h => absurd h (by cases s0 <;> decide))
    refine j_dload_n C dX6_bits_8 rfl rfl ?_
    refine j_dconst0 C dX6_bits_9 ?_
    refine j_dcmp C dX6_bits_10 ?_
    refine t_i (cmp_0 (by omega) (by omega) ht) ?_
    refine j_if_ge (tgt := 19) C dX6_bits_11 (by decide) (fun h => ?_) (fun h => ?_)
    · have hs : s0 = false := by cases s0 with | false => rfl | true => exact absurd h (by decide)
      refine j_dload_n C dX6_bits_19 rfl rfl ?_
      have s21 := s20
      rw [hs] at s21 ⊢
      exact s21
    · have hs : s0 = true := by cases s0 with | true => rfl | false => exact absurd (show (0 : Int32) ≤ 1 by decide) h
      refine j_dload_n C dX6_bits_14 rfl rfl ?_
      refine j_dneg C dX6_bits_15 ?_
      refine j_goto (tgt := 20) C dX6_bits_16 (by decide) ?_
      have s21 := s20
      rw [hs] at s21 ⊢
      rw [neg_n (by omega) ht]
      exact s21

set_option maxHeartbeats 4000000 in
set_option maxRecDepth 20000 in
theorem c_X6_near (l : Launch) (G : GT) (rg : RgT) (I : II) (L : LL) (A : AS) (x : Int32) (hss : isSS rg) (hRC : RC A I L) (hok : aok A) : CtL l yX6_near cX6_near 3 (some FieldType.long) 8 G rg I L [.ref (gB G + 0), .int x] (fun r I1 L1 => r = nearR A x ∧ I = I1 ∧ L = L1) := by
  refine ctL_of [some (.ref (gB G + 0)), some (.int x), none] rfl (Nat.le_of_ble_eq_true rfl) (by decide) ?_
  intro p e s m args below meth c C hr
  obtain ⟨so1, so2, so3, so4, so5, so6, so7, so8, so9, so10, so11, so12⟩ := id hss
  obtain ⟨rN, rF, rP, rV, rT, rX, rx0, rXv, rE⟩ := id hRC
  obtain ⟨kN, kN4, kF, kT, kT0, kP⟩ := id hok
  refine j_aload_n C dX6_near_0 rfl rfl ?_
  refine j_iload_n C dX6_near_1 rfl rfl ?_
  refine g_cvI C vc_X6_148 (c_X6_isSquare l G rg _ _ A _ hss hRC hok) ⟨Nat.le_of_ble_eq_true rfl, Nat.le_of_ble_eq_true rfl⟩ (by assumption) rfl rfl (Nat.le_of_ble_eq_true rfl) ⟨Nat.zero_le _, Nat.zero_le _⟩ dX6_near_2 (fun r_2 I_2 L_2 p_2 => ?_)
  obtain ⟨rfl, rfl, rfl⟩ := p_2
  first | refine n_if_ne (tgt := 10) C dX6_near_5 (by decide) (fun h_5 => ?_) (fun h_5 => ?_) | refine j_if_ne (tgt := 10) C dX6_near_5 (by decide) (fun h_5 => ?_) (fun h_5 => ?_)
  · obtain ⟨hx, h01, hsl, hs5⟩ := okS_t hok h_5
    obtain ⟨hRel, hM1⟩ := rE h01
    obtain ⟨hN, hS, hS5, hM, hLf, hSq⟩ := id hRel
    obtain ⟨hp1, hp2, hp3, hp4⟩ := hSq _ hsl
    obtain ⟨eo1, eo2, eo3, eo4, eo5, eo6, eo7, eo8, eo9⟩ := id so6
    have hsqr := eo9 x.toNatClampNeg (by omega)
    have hWw : WF (eW (aE A) x.toNatClampNeg) := ((kT h01).1.2 _ hsl).2.1
    have hf2 : fr L (32 + 39 + 8 * x.toNatClampNeg + 1) = eW (aE A) x.toNatClampNeg := by rw [← hp3]; congr 1; omega
    refine j_aload_n C dX6_near_10 rfl rfl ?_
    refine g_getR C (by assumption) fl_X6_33 (by rfl) dX6_near_11 ?_
    refine g_getR C (eo1) fl_X6_154 (by rfl) dX6_near_14 ?_
    refine j_iload_n C dX6_near_17 rfl rfl ?_
    refine t_i hx ?_
    refine g_aald4 C (eo4) (by omega) (by decide) (by rfl) (by omega) dX6_near_18 ?_
    refine g_getR C (hsqr.1) fl_X6_158 (by rfl) dX6_near_19 ?_
    refine j_astore_n C dX6_near_22 rfl (by decide) ?_
    refine j_aload_n C dX6_near_23 rfl rfl ?_
    refine g_getL C (hsqr.2.1) fl_X6_173 (by rfl) dX6_near_24 ?_
    refine t_l (congrArg Prod.fst hf2) ?_
    refine j_l2d C dX6_near_27 ?_
    refine j_aload_n C dX6_near_28 rfl rfl ?_
    refine g_getL C (hsqr.2.1) fl_X6_177 (by rfl) dX6_near_29 ?_
    refine t_l (congrArg Prod.snd hf2) ?_
    refine j_l2d C dX6_near_32 ?_
    refine j_ddiv C dX6_near_33 (isDb_n (WF_db hWw)) ?_
    refine j_csL C sc_X6_180 (c_X6_bits l G rg _ _ _ (WF_db hWw)) ⟨Nat.le_of_ble_eq_true rfl, Nat.le_of_ble_eq_true rfl⟩ rfl rfl (Nat.le_of_ble_eq_true rfl) ⟨Nat.zero_le _, Nat.zero_le _⟩ dX6_near_34 (fun r_34 I_34 L_34 p_34 => ?_)
    obtain ⟨rfl, rfl, rfl⟩ := p_34
    exact j_lret C hr dX6_near_37 (⟨by unfold nearR; rw [if_pos h_5], rfl, rfl⟩)
  · refine j_lconst (v := 0) C dX6_near_8 (by decide) ?_
    exact j_lret C hr dX6_near_9 (⟨by unfold nearR; rw [if_neg (by rw [h_5]; decide)], rfl, rfl⟩)

