/-! ===== the model: matrix, squares ===== -/
def vL (a b d : Nat) (L : LL) : LL := fun q p => if q < d then 0 else if p = 0 then L a (q - d) else if p = 1 then L b (q - d) else 0
theorem fr_v (a b d : Nat) (L : LL) (q : Nat) : fr (vL a b d L) (0 + d + q) = (L a q, L b q) := by
  unfold fr vL
  rw [Nat.zero_add, if_neg (by omega), if_pos rfl, if_neg (by omega), if_neg (by decide), if_pos rfl, Nat.add_sub_cancel_left]
theorem vL_set {a b d k : Nat} {L : LL} {x y : Int64} (h : a ≠ b) : vL a b d (up2 (up2 L a k x) b k y) = setF (vL a b d L) (0 + d + k) (x, y) := by
  funext q p
  unfold setF
  rw [up2_at, up2_at]
  unfold vL
  rw [up2_at, up2_at, up2_at, up2_at]
  by_cases h1 : q < d
  · rw [if_pos h1, if_neg (by omega), if_neg (by omega), if_pos h1]
  · rw [if_neg h1]
    by_cases h2 : q = 0 + d + k
    · subst h2
      rw [show 0 + d + k - d = k by omega]
      by_cases h3 : p = 0
      · subst h3; simp [h]
      · by_cases h4 : p = 1
        · subst h4; simp
        · simp [h3, h4]
    · have h5 : q - d ≠ k := by omega
      rw [if_neg h2, if_neg h2, if_neg h1]
      simp [h5, h, h.symm]
def MQm (n : Nat) (L : LL) (M : Nat → Nat → Fr) : Prop := ∀ i j, i ≤ n → j ≤ n → (L 3 (5 * i + j), L 4 (5 * i + j)) = M i j
theorem TKM_s {f : Nat → Int32} {n i j : Nat} {L : LL} {x y : Int64} (h : TK f 0 n (vL 3 4 2 L) i j) (hn : n < 5) (hj : j ≤ n) (hz : hv (f (ix i j)) i j = (x, y)) : TK f 0 n (vL 3 4 2 (up2 (up2 L 3 (5 * i + j) x) 4 (5 * i + j) y)) i (j + 1) := by
  have := TK_s h hn hj
  rw [hz, Nat.mul_comm i 5, ← vL_set (by decide)] at this
  exact this
theorem TKM_e {f : Nat → Int32} {n : Nat} {L : LL} (h : TK f 0 n (vL 3 4 2 L) (n + 1) 0) : MQm n L (fun i j => hv (f (ix i j)) i j) := fun i j hi hj => by
  have := h i j hi hj (by omega)
  rw [fr_v] at this
  rw [Nat.mul_comm 5 i]; exact this
theorem hm_1 {v : Int32} {i j : Nat} (h : i = j) : hv v i j = (v.toInt64, 1) := by
  rw [hv, if_pos h]
  exact red_id (x := (v.toInt64, 1)) ⟨i2l_ne v, show 0 < (1 : Int64).toInt by decide, by unfold gcdN; exact Nat.gcd_one_right _⟩
theorem i64_s0 {a b : Int64} : a - b = 0 ↔ a = b := by
  constructor
  · intro h
    apply Int64.toBitVec_inj.mp
    have := congrArg Int64.toBitVec h
    rw [Int64.toBitVec_sub] at this
    have h2 : a.toBitVec - b.toBitVec = 0#64 := this
    have h3 : a.toBitVec - b.toBitVec + b.toBitVec = 0#64 + b.toBitVec := by rw [h2]
    rw [BitVec.sub_add_cancel, BitVec.zero_add] at h3
    exact h3
  · intro h; rw [h]; exact Int64.sub_self b
theorem m2_i {v : Int64} (hv : v ≠ LEA) : v - v / 2 * 2 = 0 ↔ 2 ∣ absN v := by
  have h1 : (v / 2).toInt = v.toInt.tdiv 2 := div_g (g := 2) hv (by omega)
  have h3 := Int.mul_tdiv_add_tmod v.toInt 2
  have h4 := i64_hi v
  have h5 := ne_LEA.mp hv
  have h6 : (v.toInt.tmod 2).natAbs < 2 := by rw [Int.natAbs_tmod]; exact Nat.mod_lt _ (by decide)
  have h7 : (v.toInt.tdiv 2).natAbs = v.toInt.natAbs / 2 := Int.natAbs_tdiv _ _
  have h2 : (v / 2 * 2).toInt = v.toInt.tdiv 2 * 2 := by
    rw [Int64.toInt_mul, h1, show (2 : Int64).toInt = 2 by decide]
    exact bm_in ⟨by omega, by omega⟩
  have h8 : v.toInt.tmod 2 = 0 ↔ 2 ∣ absN v := by
    unfold absN
    rw [← Int.natAbs_eq_zero, Int.natAbs_tmod]
    exact ⟨Nat.dvd_of_mod_eq_zero, Nat.mod_eq_zero_of_dvd⟩
  rw [← h8]
  constructor
  · intro h
    have : v = v / 2 * 2 := i64_s0.mp h
    have := congrArg Int64.toInt this
    rw [h2] at this
    omega
  · intro h
    apply i64_s0.mpr
    apply Int64.toInt_inj.mp
    rw [h2]
    omega
theorem hm_2 {v : Int32} {i j : Nat} (h : ¬ i = j) (h2 : ¬ v.toInt64 - v.toInt64 / 2 * 2 = 0) : hv v i j = (v.toInt64, 2) := by
  rw [hv, if_neg h]
  refine red_id (x := (v.toInt64, 2)) ⟨i2l_ne v, show 0 < (2 : Int64).toInt by decide, ?_⟩
  rw [m2_i (i2l_ne v)] at h2
  show Nat.gcd (absN v.toInt64) 2 = 1
  rw [Nat.gcd_comm, Nat.gcd_rec, show absN v.toInt64 % 2 = 1 by omega]; rfl
theorem hm_3 {v : Int32} {i j : Nat} (h : ¬ i = j) (h2 : v.toInt64 - v.toInt64 / 2 * 2 = 0) : hv v i j = (v.toInt64 / 2, 1) := by
  rw [hv, if_neg h, red_p (by decide)]
  rw [m2_i (i2l_ne v)] at h2
  have : gcdN v.toInt64 2 = 2 := by show Nat.gcd (absN v.toInt64) 2 = 2; exact Nat.gcd_eq_right h2
  rw [this]
  rfl
/-- what the model's elimination writes on -/
def FM (I I1 : II) (L L1 : LL) : Prop := (∀ q, q ≠ 0 → q ≠ 7 → q ≠ 8 → q ≠ 13 → I1 q = I q) ∧ (∀ k, k ≠ 7 → k ≠ 14 → k ≠ 21 → k ≠ 22 → k ≠ 23 → I1 0 k = I 0 k) ∧ (∀ q, q ≠ 0 → q ≠ 3 → q ≠ 4 → ¬ (9 ≤ q ∧ q ≤ 12) → L1 q = L q)
theorem FM.rf {I : II} {L : LL} : FM I I L L := ⟨fun _ _ _ _ _ => rfl, fun _ _ _ _ _ _ => rfl, fun _ _ _ _ _ => rfl⟩
theorem FM.tr {I I1 I2 : II} {L L1 L2 : LL} (h : FM I I1 L L1) (h2 : FM I1 I2 L1 L2) : FM I I2 L L2 := ⟨fun q a b c d => (h2.1 q a b c d).trans (h.1 q a b c d), fun q a b c d e => (h2.2.1 q a b c d e).trans (h.2.1 q a b c d e), fun q a b c d => (h2.2.2 q a b c d).trans (h.2.2 q a b c d)⟩
theorem FM.uI {I I1 : II} {L L1 : LL} (h : FM I I1 L L1) {q k : Nat} {v : Int32} (hq : q = 7 ∨ q = 8 ∨ q = 13) : FM I (up2 I1 q k v) L L1 := ⟨fun r a b c d => by rw [up2_ne _ (by omega)]; exact h.1 r a b c d, fun r a b c d e => by rw [up2_ne _ (by omega)]; exact h.2.1 r a b c d e, h.2.2⟩
theorem FM.u0 {I I1 : II} {L L1 : LL} (h : FM I I1 L L1) {k : Nat} {v : Int32} (hq : k = 7 ∨ k = 14 ∨ k = 21 ∨ k = 22 ∨ k = 23) : FM I (up2 I1 0 k v) L L1 := ⟨fun r a b c d => by rw [up2_ne _ a]; exact h.1 r a b c d, fun r a b c d e => by rw [up2_at, if_pos rfl, if_neg (by omega)]; exact h.2.1 r a b c d e, h.2.2⟩
theorem FM.uW {I I1 : II} {L L1 : LL} (h : FM I I1 L L1) (w : Bool) : FM I (setW I1 w) L L1 := h.u0 (Or.inl rfl)
theorem FM.uL {I I1 : II} {L L1 : LL} (h : FM I I1 L L1) {q k : Nat} {v : Int64} (hq : q = 0 ∨ q = 3 ∨ q = 4 ∨ (9 ≤ q ∧ q ≤ 12)) : FM I I1 L (up2 L1 q k v) := ⟨h.1, h.2.1, fun r a b c d => by rw [up2_ne _ (by omega)]; exact h.2.2 r a b c d⟩
theorem FM.uU {I I1 : II} {L L1 : LL} (h : FM I I1 L L1) (z : Fr) : FM I I1 L (setU L1 z) := (h.uL (Or.inl rfl)).uL (Or.inl rfl)
/-- a set of numbers in an int -/
def bt (x : Int32) (j : Nat) : Bool := x.toBitVec.getLsbD j
theorem bt_0 (j : Nat) : bt 0 j = false := by unfold bt; show (0#32).getLsbD j = false; exact BitVec.getLsbD_zero
theorem bt_sh : ∀ j, j < 5 → ∀ i, i < 5 → (nI 1 <<< (nI j &&& 31)).toBitVec.getLsbD i = decide (i = j) := by decide +kernel
theorem bt_or {x : Int32} {i j : Nat} (hi : i < 5) (hj : j < 5) : bt (x ||| (nI 1 <<< (nI j &&& 31))) i = (bt x i || decide (i = j)) := by
  unfold bt
  rw [Int32.toBitVec_or, BitVec.getLsbD_or, bt_sh j hj i hi]
theorem bt_sm : ∀ j, j < 5 → ((nI j &&& 31).toBitVec.smod 32).toNat = j := by decide +kernel
theorem bt_val {x : Int32} {j : Nat} (hj : j < 5) : (x >>> (nI j &&& 31)) &&& nI 1 = b2i (bt x j) := by
  have key : (x >>> (nI j &&& 31)).toBitVec = x.toBitVec.sshiftRight j := by
    rw [Int32.toBitVec_shiftRight]
    show BitVec.sshiftRight _ _ = _
    rw [bt_sm j hj]
  apply Int32.toBitVec_inj.mp
  rw [Int32.toBitVec_and, key]
  apply BitVec.eq_of_getLsbD_eq
  intro i hi
  rw [BitVec.getLsbD_and, BitVec.getLsbD_sshiftRight, show (nI 1).toBitVec = 1#32 from rfl, BitVec.getLsbD_one]
  unfold bt
  by_cases h : i = 0
  · subst h
    cases hb : x.toBitVec.getLsbD j
    · simp [hb, show j < 32 by omega, b2i]
    · simp [hb, show j < 32 by omega, b2i]
  · cases hb : x.toBitVec.getLsbD j
    · simp [h, b2i]
    · simp [h, b2i]
/-- the model's cells of an elimination, its matrix aside -/
def RelX (n : Nat) (I : II) (L : LL) (E : ES) : Prop := (∀ j, j ≤ n → I 7 j = b2i (eL E j)) ∧ ∀ s, s < eS E → I 8 s = nI (eP E s) ∧ (L 9 s, L 10 s) = eW E s ∧ (∀ j, j < 5 → (L 11 (5 * s + j), L 12 (5 * s + j)) = eN E s j) ∧ ∀ j, j ≤ n → bt (I 13 s) j = eT E s j
theorem RelX.cong {n : Nat} {I I1 : II} {L L1 : LL} {E : ES} (h : RelX n I L E) (h7 : I1 7 = I 7) (h8 : I1 8 = I 8) (h13 : I1 13 = I 13) (h9 : ∀ q, 9 ≤ q → q ≤ 12 → L1 q = L q) : RelX n I1 L1 E := by
  refine ⟨fun j hj => by rw [h7]; exact h.1 j hj, fun s hs => ?_⟩
  rw [h8, h13, h9 9 (by omega) (by omega), h9 10 (by omega) (by omega), h9 11 (by omega) (by omega), h9 12 (by omega) (by omega)]
  exact h.2 s hs
theorem MQm.cong {n : Nat} {L L1 : LL} {M : Nat → Nat → Fr} (h : MQm n L M) (h3 : L1 3 = L 3) (h4 : L1 4 = L 4) : MQm n L1 M := fun i j hi hj => by rw [h3, h4]; exact h i j hi hj

theorem lf_I {I I1 : II} {i : Nat} (h : ∀ q, q ≠ 7 → I1 q = I q) : ∀ q, q ≠ 7 → up2 I1 7 i (nI 1) q = I q := fun q hq => by rw [up2_ne _ hq]; exact h q hq
theorem lf_L {I1 : II} {i : Nat} (h : ∀ b, b < i → I1 7 b = b2i true) : ∀ b, b < i + 1 → up2 I1 7 i (nI 1) 7 b = b2i true := fun b hb => by
  rw [up2_at, if_pos rfl]
  by_cases e : b = i
  · rw [if_pos e]; rfl
  · rw [if_neg e]; exact h b (by omega)
set_option maxHeartbeats 4000000 in
set_option maxRecDepth 20000 in
theorem c_X7_matrix (l : Launch) (G : GT) (rg : RgT) (I : II) (L : LL) (n fm : Nat) (f : Nat → Int32) (hms : isMS rg) (hn : I 0 0 = nI n) (hn4 : n < 5) (hfm : fm < 12) (hf : ∀ k, k < 25 → I 1 (25 * fm + k) = f k) : CtV l yX7_matrix cX7_matrix 7 none 2 G rg I L [.ref (gB G + 0), .int (nI fm)] (fun I1 L1 => (∀ q, q ≠ 7 → I1 q = I q) ∧ (∀ q, q ≠ 3 → q ≠ 4 → L1 q = L q) ∧ (∀ j, j ≤ n → I1 7 j = b2i true) ∧ MQm n L1 (fun i j => hv (f (ix i j)) i j)) := by
  refine ctV_of [some (.ref (gB G + 0)), some (.int (nI fm)), none, none, none, none, none] rfl (Nat.le_of_ble_eq_true rfl) (by decide) ?_
  intro p e s m args below meth c C hr
  obtain ⟨o0, a1, a2, a3, a4, a5, a6, a7, a8, a9, a10, a11, a12, a13, a14, a15, a16, a17, a18, a19, a20, a21, a22, a23, a24, a25, a26⟩ := id hms
  have lp : ∀ (fuel : Nat) (i : Nat) (I1 : II) (L1 : LL), n + 1 < fuel + i → i ≤ n + 1 → (∀ q, q ≠ 7 → I1 q = I q) → (∀ q, q ≠ 3 → q ≠ 4 → L1 q = L q) → (∀ b, b < i → I1 7 b = b2i true) → TK f 0 n (vL 3 4 2 L1) i 0 → J p l e (rmD 2) s m args below meth c (MQ below (QV G rg (fun I1 L1 => (∀ q, q ≠ 7 → I1 q = I q) ∧ (∀ q, q ≠ 3 → q ≠ 4 → L1 q = L q) ∧ (∀ j, j ≤ n → I1 7 j = b2i true) ∧ MQm n L1 (fun i j => hv (f (ix i j)) i j))) args s 0 0 (rg_A G rg)) 7 G rg 0 0 I1 L1 2 [some (.ref (gB G + 0)), some (.int (nI fm)), some (.int (nI i)), none, none, none, none] [] := by
    intro fuel
    induction fuel with
    | zero => intro i I1 L1 h1 h2 hI1 hL1 hLf hT; exfalso; omega
    | succ fuel ih_lp =>
      intro i I1 L1 h1 h2 hI1 hL1 hLf hT
      refine j_iload_n C dX7_matrix_2 rfl rfl ?_
      refine j_aload_n C dX7_matrix_3 rfl rfl ?_
      refine g_getI C (o0) fl_X7_7 (by rfl) dX7_matrix_4 ?_
      refine t_i (y := nI n) (by rw [hI1 0 (by decide)]; exact hn) ?_
      first | refine n_icmp_gt (tgt := 134) C (by omega) (by omega) dX7_matrix_7 (by decide) (fun h_7 => ?_) (fun h_7 => ?_) | refine j_icmp_gt (tgt := 134) C dX7_matrix_7 (by decide) (fun h_7 => ?_) (fun h_7 => ?_)
      · exact j_vret C hr dX7_matrix_134 (⟨hI1, hL1, fun j hj => hLf j (by omega), TKM_e (by rw [show n + 1 = i by omega]; exact hT)⟩)
      · refine j_aload_n C dX7_matrix_10 rfl rfl ?_
        refine g_getR C (o0) fl_X7_33 (by rfl) dX7_matrix_11 ?_
        refine j_iload_n C dX7_matrix_14 rfl rfl ?_
        refine j_iconst (v := nI 1) C dX7_matrix_15 (by decide) ?_
        refine g_zast C (a7) (by omega) (by decide) rfl dX7_matrix_16 ?_
        refine j_iconst (v := nI 0) C dX7_matrix_17 (by decide) ?_
        refine j_istore_n C dX7_matrix_18 rfl (by decide) ?_
        have hI2 := lf_I (i := i) hI1
        have hLf2 := lf_L hLf
        revert hI2 hLf2
        generalize up2 I1 7 i (nI 1) = I2
        intro hI2 hLf2
        have lq : ∀ (fuel : Nat) (j : Nat) (L1 : LL), n + 1 < fuel + j → j ≤ n + 1 → (∀ q, q ≠ 3 → q ≠ 4 → L1 q = L q) → TK f 0 n (vL 3 4 2 L1) i j → J p l e (rmD 2) s m args below meth c (MQ below (QV G rg (fun I2 L1 => (∀ q, q ≠ 7 → I2 q = I q) ∧ (∀ q, q ≠ 3 → q ≠ 4 → L1 q = L q) ∧ (∀ j, j ≤ n → I2 7 j = b2i true) ∧ MQm n L1 (fun i j => hv (f (ix i j)) i j))) args s 0 0 (rg_A G rg)) 7 G rg 0 0 I2 L1 19 [some (.ref (gB G + 0)), some (.int (nI fm)), some (.int (nI i)), some (.int (nI j)), none, none, none] [] := by
          intro fuel
          induction fuel with
          | zero => intro j L1 q1 q2 hL1 hT; exfalso; omega
          | succ fuel ih_lq =>
            intro j L1 q1 q2 hL1 hT
            refine j_iload_n C dX7_matrix_19 rfl rfl ?_
            refine j_aload_n C dX7_matrix_20 rfl rfl ?_
            refine g_getI C (o0) fl_X7_7 (by rfl) dX7_matrix_21 ?_
            refine t_i (y := nI n) (by rw [hI2 0 (by decide)]; exact hn) ?_
            first | refine n_icmp_gt (tgt := 128) C (by omega) (by omega) dX7_matrix_24 (by decide) (fun h_24 => ?_) (fun h_24 => ?_) | refine j_icmp_gt (tgt := 128) C dX7_matrix_24 (by decide) (fun h_24 => ?_) (fun h_24 => ?_)
            · first | refine n_iinc (n := 1) C dX7_matrix_128 rfl (by decide) ?_ | refine j_iinc C dX7_matrix_128 rfl rfl (by decide) ?_
              refine j_goto (tgt := 2) C dX7_matrix_131 (by decide) ?_
              refine j_rm 3 ?_
              exact ih_lp (i + 1) I2 L1 (by omega) (by omega) hI2 hL1 (fun b hb => hLf2 b hb) (TK_n hT (by omega))
            · refine j_aload_n C dX7_matrix_27 rfl rfl ?_
              refine g_getR C (o0) fl_X7_13 (by rfl) dX7_matrix_28 ?_
              refine j_bipush (v := nI 25) C dX7_matrix_31 (by decide) ?_
              refine j_iload_n C dX7_matrix_33 rfl rfl ?_
              first | refine n_imul C dX7_matrix_34 ?_ | refine j_imul C dX7_matrix_34 ?_
              refine j_aload_n C dX7_matrix_35 rfl rfl ?_
              refine j_iload_n C dX7_matrix_36 rfl rfl ?_
              refine j_iload_n C dX7_matrix_37 rfl rfl ?_
              refine g_cvI C vc_X7_125 (c_X7_at l G rg _ _ _ _ (by omega) (by omega)) ⟨Nat.le_of_ble_eq_true rfl, Nat.le_of_ble_eq_true rfl⟩ (o0) rfl rfl (Nat.le_of_ble_eq_true rfl) ⟨Nat.zero_le _, Nat.zero_le _⟩ dX7_matrix_38 (fun r_38 I_38 L_38 p_38 => ?_)
              obtain ⟨rfl, rfl, rfl⟩ := p_38
              first | refine n_iadd C dX7_matrix_41 ?_ | refine j_iadd C dX7_matrix_41 ?_
              have hix := ix_lt (show i < 5 by omega) (show j < 5 by omega)
              refine g_iald C (a1) (by omega) (by decide) dX7_matrix_42 ?_
              refine t_i (y := f (ix i j)) (by rw [hI2 1 (by decide)]; exact hf _ hix) ?_
              refine j_i2l C dX7_matrix_43 ?_
              refine j_lstore C dX7_matrix_44 (by decide) ?_
              refine j_iload_n C dX7_matrix_46 rfl rfl ?_
              refine j_iload_n C dX7_matrix_47 rfl rfl ?_
              first | refine n_icmp_eq (tgt := 66) C (by omega) (by omega) dX7_matrix_48 (by decide) (fun h_48 => ?_) (fun h_48 => ?_) | refine j_icmp_eq (tgt := 66) C dX7_matrix_48 (by decide) (fun h_48 => ?_) (fun h_48 => ?_)
              · refine j_iconst (v := nI 0) C dX7_matrix_66 (by decide) ?_
                refine j_istore C dX7_matrix_67 (by decide) ?_
                refine j_aload_n C dX7_matrix_69 rfl rfl ?_
                refine g_getR C (o0) fl_X7_20 (by rfl) dX7_matrix_70 ?_
                refine j_iconst (v := nI 5) C dX7_matrix_73 (by decide) ?_
                refine j_iload_n C dX7_matrix_74 rfl rfl ?_
                first | refine n_imul C dX7_matrix_75 ?_ | refine j_imul C dX7_matrix_75 ?_
                refine j_iload_n C dX7_matrix_76 rfl rfl ?_
                first | refine n_iadd C dX7_matrix_77 ?_ | refine j_iadd C dX7_matrix_77 ?_
                refine j_iload_n C dX7_matrix_78 rfl rfl ?_
                refine j_iload_n C dX7_matrix_79 rfl rfl ?_
                first | refine n_icmp_eq (tgt := 88) C (by omega) (by omega) dX7_matrix_80 (by decide) (fun h_80 => ?_) (fun h_80 => ?_) | refine j_icmp_eq (tgt := 88) C dX7_matrix_80 (by decide) (fun h_80 => ?_) (fun h_80 => ?_)
                · refine j_lload C dX7_matrix_88 rfl ?_
                  refine j_goto (tgt := 99) C dX7_matrix_90 (by decide) ?_
                  refine g_last C (a3) (by omega) (by decide) dX7_matrix_99 ?_
                  refine j_aload_n C dX7_matrix_100 rfl rfl ?_
                  refine g_getR C (o0) fl_X7_24 (by rfl) dX7_matrix_101 ?_
                  refine j_iconst (v := nI 5) C dX7_matrix_104 (by decide) ?_
                  refine j_iload_n C dX7_matrix_105 rfl rfl ?_
                  first | refine n_imul C dX7_matrix_106 ?_ | refine j_imul C dX7_matrix_106 ?_
                  refine j_iload_n C dX7_matrix_107 rfl rfl ?_
                  first | refine n_iadd C dX7_matrix_108 ?_ | refine j_iadd C dX7_matrix_108 ?_
                  refine j_iload C dX7_matrix_109 rfl ?_
                  refine j_if_eq (tgt := 120) C dX7_matrix_111 (by decide) (fun h_111 => ?_) (fun h_111 => ?_)
                  · refine j_lconst (v := 1) C dX7_matrix_120 (by decide) ?_
                    refine g_last C (a4) (by omega) (by decide) dX7_matrix_121 ?_
                    first | refine n_iinc (n := 1) C dX7_matrix_122 rfl (by decide) ?_ | refine j_iinc C dX7_matrix_122 rfl rfl (by decide) ?_
                    refine j_goto (tgt := 19) C dX7_matrix_125 (by decide) ?_
                    try refine j_rm 6 ?_
                    try refine j_rm 4 ?_
                    first
                    | exact ih_lq (j + 1) _ (by omega) (by omega) (fun q q3 q4 => by rw [up2_ne _ q4, up2_ne _ q3]; exact hL1 q q3 q4) (TKM_s hT hn4 (by omega) (hm_1 h_48))
                    | exact ih_lq (j + 1) _ (by omega) (by omega) (fun q q3 q4 => by rw [up2_ne _ q4, up2_ne _ q3]; exact hL1 q q3 q4) (TKM_s hT hn4 (by omega) (hm_2 h_48 h_59))
                    | exact ih_lq (j + 1) _ (by omega) (by omega) (fun q q3 q4 => by rw [up2_ne _ q4, up2_ne _ q3]; exact hL1 q q3 q4) (TKM_s hT hn4 (by omega) (hm_3 h_48 h_59))
                    | exact absurd h_48 h_80
                    | exact absurd h_80 h_48
                  · exact absurd rfl h_111
                · refine j_iload C dX7_matrix_83 rfl ?_
                  refine j_if_eq (tgt := 93) C dX7_matrix_85 (by decide) (fun h_85 => ?_) (fun h_85 => ?_)
                  · refine j_lload C dX7_matrix_93 rfl ?_
                    refine j_ldc2 C kc_X7_169 dX7_matrix_95 ?_
                    refine j_ldiv C dX7_matrix_98 (by decide) ?_
                    refine g_last C (a3) (by omega) (by decide) dX7_matrix_99 ?_
                    refine j_aload_n C dX7_matrix_100 rfl rfl ?_
                    refine g_getR C (o0) fl_X7_24 (by rfl) dX7_matrix_101 ?_
                    refine j_iconst (v := nI 5) C dX7_matrix_104 (by decide) ?_
                    refine j_iload_n C dX7_matrix_105 rfl rfl ?_
                    first | refine n_imul C dX7_matrix_106 ?_ | refine j_imul C dX7_matrix_106 ?_
                    refine j_iload_n C dX7_matrix_107 rfl rfl ?_
                    first | refine n_iadd C dX7_matrix_108 ?_ | refine j_iadd C dX7_matrix_108 ?_
                    refine j_iload C dX7_matrix_109 rfl ?_
                    refine j_if_eq (tgt := 120) C dX7_matrix_111 (by decide) (fun h_111 => ?_) (fun h_111 => ?_)
                    · refine j_lconst (v := 1) C dX7_matrix_120 (by decide) ?_
                      refine g_last C (a4) (by omega) (by decide) dX7_matrix_121 ?_
                      first | refine n_iinc (n := 1) C dX7_matrix_122 rfl (by decide) ?_ | refine j_iinc C dX7_matrix_122 rfl rfl (by decide) ?_
                      refine j_goto (tgt := 19) C dX7_matrix_125 (by decide) ?_
                      try refine j_rm 6 ?_
                      try refine j_rm 4 ?_
                      first
                      | exact ih_lq (j + 1) _ (by omega) (by omega) (fun q q3 q4 => by rw [up2_ne _ q4, up2_ne _ q3]; exact hL1 q q3 q4) (TKM_s hT hn4 (by omega) (hm_1 h_48))
                      | exact ih_lq (j + 1) _ (by omega) (by omega) (fun q q3 q4 => by rw [up2_ne _ q4, up2_ne _ q3]; exact hL1 q q3 q4) (TKM_s hT hn4 (by omega) (hm_2 h_48 h_59))
                      | exact ih_lq (j + 1) _ (by omega) (by omega) (fun q q3 q4 => by rw [up2_ne _ q4, up2_ne _ q3]; exact hL1 q q3 q4) (TKM_s hT hn4 (by omega) (hm_3 h_48 h_59))
                      | exact absurd h_48 h_80
                      | exact absurd h_80 h_48
                    · exact absurd rfl h_111
                  · exact absurd rfl h_85
              · refine j_lload C dX7_matrix_51 rfl ?_
                refine j_ldc2 C kc_X7_169 dX7_matrix_53 ?_
                refine j_lrem C dX7_matrix_56 (by decide) ?_
                refine j_lconst (v := 0) C dX7_matrix_57 (by decide) ?_
                refine j_lc_eq (tgt := 66) C dX7_matrix_58 dX7_matrix_59 (by decide) (fun h_59 => ?_) (fun h_59 => ?_)
                · refine j_iconst (v := nI 0) C dX7_matrix_66 (by decide) ?_
                  refine j_istore C dX7_matrix_67 (by decide) ?_
                  refine j_aload_n C dX7_matrix_69 rfl rfl ?_
                  refine g_getR C (o0) fl_X7_20 (by rfl) dX7_matrix_70 ?_
                  refine j_iconst (v := nI 5) C dX7_matrix_73 (by decide) ?_
                  refine j_iload_n C dX7_matrix_74 rfl rfl ?_
                  first | refine n_imul C dX7_matrix_75 ?_ | refine j_imul C dX7_matrix_75 ?_
                  refine j_iload_n C dX7_matrix_76 rfl rfl ?_
                  first | refine n_iadd C dX7_matrix_77 ?_ | refine j_iadd C dX7_matrix_77 ?_
                  refine j_iload_n C dX7_matrix_78 rfl rfl ?_
                  refine j_iload_n C dX7_matrix_79 rfl rfl ?_
                  first | refine n_icmp_eq (tgt := 88) C (by omega) (by omega) dX7_matrix_80 (by decide) (fun h_80 => ?_) (fun h_80 => ?_) | refine j_icmp_eq (tgt := 88) C dX7_matrix_80 (by decide) (fun h_80 => ?_) (fun h_80 => ?_)
                  · refine j_lload C dX7_matrix_88 rfl ?_
                    refine j_goto (tgt := 99) C dX7_matrix_90 (by decide) ?_
                    refine g_last C (a3) (by omega) (by decide) dX7_matrix_99 ?_
                    refine j_aload_n C dX7_matrix_100 rfl rfl ?_
                    refine g_getR C (o0) fl_X7_24 (by rfl) dX7_matrix_101 ?_
                    refine j_iconst (v := nI 5) C dX7_matrix_104 (by decide) ?_
                    refine j_iload_n C dX7_matrix_105 rfl rfl ?_
                    first | refine n_imul C dX7_matrix_106 ?_ | refine j_imul C dX7_matrix_106 ?_
                    refine j_iload_n C dX7_matrix_107 rfl rfl ?_
                    first | refine n_iadd C dX7_matrix_108 ?_ | refine j_iadd C dX7_matrix_108 ?_
                    refine j_iload C dX7_matrix_109 rfl ?_
                    refine j_if_eq (tgt := 120) C dX7_matrix_111 (by decide) (fun h_111 => ?_) (fun h_111 => ?_)
                    · refine j_lconst (v := 1) C dX7_matrix_120 (by decide) ?_
                      refine g_last C (a4) (by omega) (by decide) dX7_matrix_121 ?_
                      first | refine n_iinc (n := 1) C dX7_matrix_122 rfl (by decide) ?_ | refine j_iinc C dX7_matrix_122 rfl rfl (by decide) ?_
                      refine j_goto (tgt := 19) C dX7_matrix_125 (by decide) ?_
                      try refine j_rm 6 ?_
                      try refine j_rm 4 ?_
                      first
                      | exact ih_lq (j + 1) _ (by omega) (by omega) (fun q q3 q4 => by rw [up2_ne _ q4, up2_ne _ q3]; exact hL1 q q3 q4) (TKM_s hT hn4 (by omega) (hm_1 h_48))
                      | exact ih_lq (j + 1) _ (by omega) (by omega) (fun q q3 q4 => by rw [up2_ne _ q4, up2_ne _ q3]; exact hL1 q q3 q4) (TKM_s hT hn4 (by omega) (hm_2 h_48 h_59))
                      | exact ih_lq (j + 1) _ (by omega) (by omega) (fun q q3 q4 => by rw [up2_ne _ q4, up2_ne _ q3]; exact hL1 q q3 q4) (TKM_s hT hn4 (by omega) (hm_3 h_48 h_59))
                      | exact absurd h_48 h_80
                      | exact absurd h_80 h_48
                    · exact absurd rfl h_111
                  · refine j_iload C dX7_matrix_83 rfl ?_
                    refine j_if_eq (tgt := 93) C dX7_matrix_85 (by decide) (fun h_85 => ?_) (fun h_85 => ?_)
                    · refine j_lload C dX7_matrix_93 rfl ?_
                      refine j_ldc2 C kc_X7_169 dX7_matrix_95 ?_
                      refine j_ldiv C dX7_matrix_98 (by decide) ?_
                      refine g_last C (a3) (by omega) (by decide) dX7_matrix_99 ?_
                      refine j_aload_n C dX7_matrix_100 rfl rfl ?_
                      refine g_getR C (o0) fl_X7_24 (by rfl) dX7_matrix_101 ?_
                      refine j_iconst (v := nI 5) C dX7_matrix_104 (by decide) ?_
                      refine j_iload_n C dX7_matrix_105 rfl rfl ?_
                      first | refine n_imul C dX7_matrix_106 ?_ | refine j_imul C dX7_matrix_106 ?_
                      refine j_iload_n C dX7_matrix_107 rfl rfl ?_
                      first | refine n_iadd C dX7_matrix_108 ?_ | refine j_iadd C dX7_matrix_108 ?_
                      refine j_iload C dX7_matrix_109 rfl ?_
                      refine j_if_eq (tgt := 120) C dX7_matrix_111 (by decide) (fun h_111 => ?_) (fun h_111 => ?_)
                      · refine j_lconst (v := 1) C dX7_matrix_120 (by decide) ?_
                        refine g_last C (a4) (by omega) (by decide) dX7_matrix_121 ?_
                        first | refine n_iinc (n := 1) C dX7_matrix_122 rfl (by decide) ?_ | refine j_iinc C dX7_matrix_122 rfl rfl (by decide) ?_
                        refine j_goto (tgt := 19) C dX7_matrix_125 (by decide) ?_
                        try refine j_rm 6 ?_
                        try refine j_rm 4 ?_
                        first
                        | exact ih_lq (j + 1) _ (by omega) (by omega) (fun q q3 q4 => by rw [up2_ne _ q4, up2_ne _ q3]; exact hL1 q q3 q4) (TKM_s hT hn4 (by omega) (hm_1 h_48))
                        | exact ih_lq (j + 1) _ (by omega) (by omega) (fun q q3 q4 => by rw [up2_ne _ q4, up2_ne _ q3]; exact hL1 q q3 q4) (TKM_s hT hn4 (by omega) (hm_2 h_48 h_59))
                        | exact ih_lq (j + 1) _ (by omega) (by omega) (fun q q3 q4 => by rw [up2_ne _ q4, up2_ne _ q3]; exact hL1 q q3 q4) (TKM_s hT hn4 (by omega) (hm_3 h_48 h_59))
                        | exact absurd h_48 h_80
                        | exact absurd h_80 h_48
                      · exact absurd rfl h_111
                    · exact absurd rfl h_85
                · refine j_iconst (v := nI 1) C dX7_matrix_62 (by decide) ?_
                  refine j_goto (tgt := 67) C dX7_matrix_63 (by decide) ?_
                  refine j_istore C dX7_matrix_67 (by decide) ?_
                  refine j_aload_n C dX7_matrix_69 rfl rfl ?_
                  refine g_getR C (o0) fl_X7_20 (by rfl) dX7_matrix_70 ?_
                  refine j_iconst (v := nI 5) C dX7_matrix_73 (by decide) ?_
                  refine j_iload_n C dX7_matrix_74 rfl rfl ?_
                  first | refine n_imul C dX7_matrix_75 ?_ | refine j_imul C dX7_matrix_75 ?_
                  refine j_iload_n C dX7_matrix_76 rfl rfl ?_
                  first | refine n_iadd C dX7_matrix_77 ?_ | refine j_iadd C dX7_matrix_77 ?_
                  refine j_iload_n C dX7_matrix_78 rfl rfl ?_
                  refine j_iload_n C dX7_matrix_79 rfl rfl ?_
                  first | refine n_icmp_eq (tgt := 88) C (by omega) (by omega) dX7_matrix_80 (by decide) (fun h_80 => ?_) (fun h_80 => ?_) | refine j_icmp_eq (tgt := 88) C dX7_matrix_80 (by decide) (fun h_80 => ?_) (fun h_80 => ?_)
                  · refine j_lload C dX7_matrix_88 rfl ?_
                    refine j_goto (tgt := 99) C dX7_matrix_90 (by decide) ?_
                    refine g_last C (a3) (by omega) (by decide) dX7_matrix_99 ?_
                    refine j_aload_n C dX7_matrix_100 rfl rfl ?_
                    refine g_getR C (o0) fl_X7_24 (by rfl) dX7_matrix_101 ?_
                    refine j_iconst (v := nI 5) C dX7_matrix_104 (by decide) ?_
                    refine j_iload_n C dX7_matrix_105 rfl rfl ?_
                    first | refine n_imul C dX7_matrix_106 ?_ | refine j_imul C dX7_matrix_106 ?_
                    refine j_iload_n C dX7_matrix_107 rfl rfl ?_
                    first | refine n_iadd C dX7_matrix_108 ?_ | refine j_iadd C dX7_matrix_108 ?_
                    refine j_iload C dX7_matrix_109 rfl ?_
                    refine j_if_eq (tgt := 120) C dX7_matrix_111 (by decide) (fun h_111 => ?_) (fun h_111 => ?_)
                    · exact absurd h_111 (by decide)
                    · refine j_ldc2 C kc_X7_169 dX7_matrix_114 ?_
                      refine j_goto (tgt := 121) C dX7_matrix_117 (by decide) ?_
                      refine g_last C (a4) (by omega) (by decide) dX7_matrix_121 ?_
                      first | refine n_iinc (n := 1) C dX7_matrix_122 rfl (by decide) ?_ | refine j_iinc C dX7_matrix_122 rfl rfl (by decide) ?_
                      refine j_goto (tgt := 19) C dX7_matrix_125 (by decide) ?_
                      try refine j_rm 6 ?_
                      try refine j_rm 4 ?_
                      first
                      | exact ih_lq (j + 1) _ (by omega) (by omega) (fun q q3 q4 => by rw [up2_ne _ q4, up2_ne _ q3]; exact hL1 q q3 q4) (TKM_s hT hn4 (by omega) (hm_1 h_48))
                      | exact ih_lq (j + 1) _ (by omega) (by omega) (fun q q3 q4 => by rw [up2_ne _ q4, up2_ne _ q3]; exact hL1 q q3 q4) (TKM_s hT hn4 (by omega) (hm_2 h_48 h_59))
                      | exact ih_lq (j + 1) _ (by omega) (by omega) (fun q q3 q4 => by rw [up2_ne _ q4, up2_ne _ q3]; exact hL1 q q3 q4) (TKM_s hT hn4 (by omega) (hm_3 h_48 h_59))
                      | exact absurd h_48 h_80
                      | exact absurd h_80 h_48
                  · refine j_iload C dX7_matrix_83 rfl ?_
                    refine j_if_eq (tgt := 93) C dX7_matrix_85 (by decide) (fun h_85 => ?_) (fun h_85 => ?_)
                    · exact absurd h_85 (by decide)
                    · refine j_lload C dX7_matrix_88 rfl ?_
                      refine j_goto (tgt := 99) C dX7_matrix_90 (by decide) ?_
                      refine g_last C (a3) (by omega) (by decide) dX7_matrix_99 ?_
                      refine j_aload_n C dX7_matrix_100 rfl rfl ?_
                      refine g_getR C (o0) fl_X7_24 (by rfl) dX7_matrix_101 ?_
                      refine j_iconst (v := nI 5) C dX7_matrix_104 (by decide) ?_
                      refine j_iload_n C dX7_matrix_105 rfl rfl ?_
                      first | refine n_imul C dX7_matrix_106 ?_ | refine j_imul C dX7_matrix_106 ?_
                      refine j_iload_n C dX7_matrix_107 rfl rfl ?_
                      first | refine n_iadd C dX7_matrix_108 ?_ | refine j_iadd C dX7_matrix_108 ?_
                      refine j_iload C dX7_matrix_109 rfl ?_
                      refine j_if_eq (tgt := 120) C dX7_matrix_111 (by decide) (fun h_111 => ?_) (fun h_111 => ?_)
                      · exact absurd h_111 (by decide)
                      · refine j_ldc2 C kc_X7_169 dX7_matrix_114 ?_
                        refine j_goto (tgt := 121) C dX7_matrix_117 (by decide) ?_
                        refine g_last C (a4) (by omega) (by decide) dX7_matrix_121 ?_
                        first | refine n_iinc (n := 1) C dX7_matrix_122 rfl (by decide) ?_ | refine j_iinc C dX7_matrix_122 rfl rfl (by decide) ?_
                        refine j_goto (tgt := 19) C dX7_matrix_125 (by decide) ?_
                        try refine j_rm 6 ?_
                        try refine j_rm 4 ?_
                        first
                        | exact ih_lq (j + 1) _ (by omega) (by omega) (fun q q3 q4 => by rw [up2_ne _ q4, up2_ne _ q3]; exact hL1 q q3 q4) (TKM_s hT hn4 (by omega) (hm_1 h_48))
                        | exact ih_lq (j + 1) _ (by omega) (by omega) (fun q q3 q4 => by rw [up2_ne _ q4, up2_ne _ q3]; exact hL1 q q3 q4) (TKM_s hT hn4 (by omega) (hm_2 h_48 h_59))
                        | exact ih_lq (j + 1) _ (by omega) (by omega) (fun q q3 q4 => by rw [up2_ne _ q4, up2_ne _ q3]; exact hL1 q q3 q4) (TKM_s hT hn4 (by omega) (hm_3 h_48 h_59))
                        | exact absurd h_48 h_80
                        | exact absurd h_80 h_48
        exact lq (n + 2) 0 L1 (by omega) (by omega) hL1 hT
  refine j_iconst (v := nI 0) C dX7_matrix_0 (by decide) ?_
  refine j_istore_n C dX7_matrix_1 rfl (by decide) ?_
  exact lp (n + 2) 0 I L (by omega) (by omega) (fun _ _ => rfl) (fun _ _ _ => rfl) (fun b hb => by omega) TK_0
