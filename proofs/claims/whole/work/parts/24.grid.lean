/-! ===== whole points ===== -/
/-- the k-th coordinate at the t-th whole point -/
def gx (n t k : Nat) : Int64 := if k = 0 then 1 else lN (t / 7 ^ (n - k) % 7) - 3
def wpO (n : Nat) (g c : Nat → Int32) : Nat → Nat → Option Nat
  | 0, _ => none
  | k + 1, t => if 0 ≤ inI c (gx n t) n (n + 1) 0 ∧ inI g (gx n t) n (n + 1) 0 < 0 then some t else wpO n g c k (t + 1)
theorem gx_int {n t k : Nat} (hk : 1 ≤ k) : (gx n t k).toInt = ((t / 7 ^ (n - k) % 7 : Nat) : Int) - 3 := by
  unfold gx
  rw [if_neg (by omega), sub_in]
  · rw [pk_lT (by omega), show (3 : Int64).toInt = 3 by decide]
  · rw [pk_lT (by omega), show (3 : Int64).toInt = 3 by decide]; constructor <;> omega
theorem gx_ne {n t k : Nat} : gx n t k ≠ LEA := by
  by_cases h : k = 0
  · subst h; show (1 : Int64) ≠ LEA; decide
  · rw [ne_LEA, gx_int (by omega)]; omega
/-- the digits of the next number -/
def carry (n t k : Nat) : Prop := (t + 1) % 7 ^ (n - k) = 0
theorem dig_hi {t e : Nat} (h : (t + 1) % 7 ^ e ≠ 0) : (t + 1) / 7 ^ e = t / 7 ^ e := by
  have hp : 0 < 7 ^ e := Nat.pow_pos (by decide)
  have h1 := Nat.div_add_mod (t + 1) (7 ^ e)
  have h2 := Nat.mod_lt (t + 1) hp
  symm
  apply (Nat.div_eq_iff hp).mpr
  rw [Nat.mul_comm] at h1
  constructor <;> omega
theorem dig_lo {t e : Nat} (h : (t + 1) % 7 ^ e = 0) : (t + 1) / 7 ^ e = t / 7 ^ e + 1 := by
  have hp : 0 < 7 ^ e := Nat.pow_pos (by decide)
  have h1 := Nat.div_add_mod (t + 1) (7 ^ e)
  have h3 : 0 < (t + 1) / 7 ^ e := by
    apply Nat.pos_of_ne_zero
    intro q
    rw [q, h] at h1
    omega
  have h4 : t / 7 ^ e = (t + 1) / 7 ^ e - 1 := by
    apply (Nat.div_eq_iff hp).mpr
    rw [h, Nat.add_zero, Nat.mul_comm] at h1
    have h5 : ((t + 1) / 7 ^ e - 1) * 7 ^ e + 7 ^ e = (t + 1) / 7 ^ e * 7 ^ e := by
      rw [← Nat.succ_mul, Nat.succ_eq_add_one, Nat.sub_add_cancel h3]
    omega
  omega
theorem dig_up {t e : Nat} (h : (t + 1) % 7 ^ e = 0) : (t + 1) % 7 ^ (e + 1) = 0 ↔ t / 7 ^ e % 7 = 6 := by
  rw [Nat.pow_succ, Nat.mod_mul, h, Nat.zero_add, dig_lo h]
  have hp : 0 < 7 ^ e := Nat.pow_pos (by decide)
  constructor
  · intro q
    have := (Nat.mul_eq_zero.mp q).resolve_left (by omega)
    omega
  · intro q
    rw [show (t / 7 ^ e + 1) % 7 = 0 by omega, Nat.mul_zero]
theorem gx_keep {n t k : Nat} (hk : 1 ≤ k) (h : (t + 1) % 7 ^ (n - k) ≠ 0) : gx n (t + 1) k = gx n t k := by
  apply Int64.toInt_inj.mp
  rw [gx_int hk, gx_int hk, dig_hi h]
theorem gx_inc {n t k : Nat} (hk : 1 ≤ k) (h : (t + 1) % 7 ^ (n - k) = 0) (h6 : t / 7 ^ (n - k) % 7 ≠ 6) : gx n (t + 1) k = gx n t k + 1 := by
  apply Int64.toInt_inj.mp
  have e1 := gx_int (n := n) (t := t) hk
  rw [add_in (by rw [e1, i64_1]; constructor <;> omega), gx_int hk, e1, dig_lo h, i64_1]
  omega
theorem gx_wrap {n t k : Nat} (hk : 1 ≤ k) (h : (t + 1) % 7 ^ (n - k) = 0) (h6 : t / 7 ^ (n - k) % 7 = 6) : gx n (t + 1) k = -3 := by
  apply Int64.toInt_inj.mp
  rw [gx_int hk, dig_lo h, show (-3 : Int64).toInt = -3 by decide]
  omega
theorem gx_lt3 {n t k : Nat} (hk : 1 ≤ k) : (3 : Int64) ≤ gx n t k ↔ t / 7 ^ (n - k) % 7 = 6 := by
  rw [Int64.le_iff_toInt_le, gx_int hk, show (3 : Int64).toInt = 3 by decide]
  have := Nat.mod_lt (t / 7 ^ (n - k)) (show 0 < 7 by decide)
  omega
theorem gx_0 {n k : Nat} (hk : 1 ≤ k) : gx n 0 k = -3 := by
  apply Int64.toInt_inj.mp
  rw [gx_int hk, Nat.zero_div, show (-3 : Int64).toInt = -3 by decide]
  omega
theorem pow7 {n : Nat} (h : n < 5) : 7 ^ n ≤ 2401 := by
  have : 7 ^ n ≤ 7 ^ 4 := Nat.pow_le_pow_right (by decide) (by omega)
  exact this
theorem pw_no {e k : Nat} (h : k + 1 ≤ e) {t : Nat} (hm : (t + 1) % 7 ^ (e - k) ≠ 0) : ∀ j, j ≤ k → (t + 1) % 7 ^ (e - j) ≠ 0 := fun j hj q => hm (by
  obtain ⟨d, hd⟩ := Nat.dvd_of_mod_eq_zero q
  apply Nat.mod_eq_zero_of_dvd
  refine ⟨7 ^ (k - j) * d, ?_⟩
  rw [hd, ← Nat.mul_assoc, ← Nat.pow_add]
  congr 2
  omega)

set_option maxHeartbeats 4000000 in
set_option maxRecDepth 20000 in
theorem c_X6_nextOnGrid (l : Launch) (G : GT) (rg : RgT) (I : II) (L : LL) (n t : Nat) (hss : isSS rg) (rN : I 0 10 = nI n) (hn : n < 5) (hw : ∀ k, 1 ≤ k → k ≤ n → L 3 k = gx n t k) : CtV l yX6_nextOnGrid cX6_nextOnGrid 2 none 1 G rg I L [.ref (gB G + 0)] (fun I1 L1 => I = I1 ∧ Fm 3 4 L L1 ∧ L1 3 0 = L 3 0 ∧ ∀ k, 1 ≤ k → k ≤ n → L1 3 k = gx n (t + 1) k) := by
  refine ctV_of [some (.ref (gB G + 0)), none] rfl (Nat.le_of_ble_eq_true rfl) (by decide) ?_
  intro p e s m args below meth c C hr
  obtain ⟨so1, so2, so3, so4, so5, so6, so7, so8, so9, so10, so11, so12⟩ := id hss
  have lp : ∀ (fuel : Nat) (k : Nat) (L1 : LL), k < fuel → k ≤ n → Fm 3 4 L L1 → L1 3 0 = L 3 0 → (t + 1) % 7 ^ (n - k) = 0 → (∀ i, 1 ≤ i → i ≤ k → L1 3 i = gx n t i) → (∀ i, k < i → i ≤ n → L1 3 i = gx n (t + 1) i) → J p l e (rmD 1) s m args below meth c (MQ below (QV G rg (fun I1 L1 => I = I1 ∧ Fm 3 4 L L1 ∧ L1 3 0 = L 3 0 ∧ ∀ k, 1 ≤ k → k ≤ n → L1 3 k = gx n (t + 1) k)) args s 0 0 (rg_A G rg)) 2 G rg 0 0 I L1 5 [some (.ref (gB G + 0)), some (.int (nI k))] [] := by
    intro fuel
    induction fuel with
    | zero => intro k L1 h1 h2 hF h00 hcar hA hB; exfalso; omega
    | succ fuel ih_lp =>
      intro k L1 h1 h2 hF h00 hcar hA hB
      refine j_iload_n C dX6_nextOnGrid_5 rfl rfl ?_
      refine j_iconst (v := nI 1) C dX6_nextOnGrid_6 (by decide) ?_
      first | refine n_icmp_lt (tgt := 49) C (by omega) (by omega) dX6_nextOnGrid_7 (by decide) (fun h_7 => ?_) (fun h_7 => ?_) | refine j_icmp_lt (tgt := 49) C dX6_nextOnGrid_7 (by decide) (fun h_7 => ?_) (fun h_7 => ?_)
      · exact j_vret C hr dX6_nextOnGrid_49 (⟨rfl, hF, h00, fun i i1 i2 => hB i (by omega) i2⟩)
      · refine j_aload_n C dX6_nextOnGrid_10 rfl rfl ?_
        refine g_getR C (by assumption) fl_X6_19 (by rfl) dX6_nextOnGrid_11 ?_
        refine j_iload_n C dX6_nextOnGrid_14 rfl rfl ?_
        refine g_lald C (so4) (by omega) (by decide) dX6_nextOnGrid_15 ?_
        refine t_l (hA k (by omega) (by omega)) ?_
        refine j_ldc2 C kc_X6_236 dX6_nextOnGrid_16 ?_
        refine j_lc_ge (tgt := 34) C dX6_nextOnGrid_19 dX6_nextOnGrid_20 (by decide) (fun h_20 => ?_) (fun h_20 => ?_)
        · refine j_aload_n C dX6_nextOnGrid_34 rfl rfl ?_
          refine g_getR C (by assumption) fl_X6_19 (by rfl) dX6_nextOnGrid_35 ?_
          refine j_iload_n C dX6_nextOnGrid_38 rfl rfl ?_
          refine j_ldc2 C kc_X6_227 dX6_nextOnGrid_39 ?_
          refine g_last C (so4) (by omega) (by decide) dX6_nextOnGrid_42 ?_
          obtain ⟨k, rfl⟩ : ∃ z, k = z + 1 := ⟨k - 1, by omega⟩
          refine n_idec C dX6_nextOnGrid_43 rfl (by decide) ?_
          refine j_goto (tgt := 5) C dX6_nextOnGrid_46 (by decide) ?_
          have h6 : t / 7 ^ (n - (k + 1)) % 7 = 6 := (gx_lt3 (by omega)).mp h_20
          refine ih_lp k _ (by omega) (by omega) (up2_I hF (by omega) (by omega)) (by rw [up2_at, if_pos rfl, if_neg (by omega)]; exact h00) (by have := (dig_up hcar).mpr h6; rw [show n - (k + 1) + 1 = n - k by omega] at this; exact this) (fun i i1 i2 => by rw [up2_at, if_pos rfl, if_neg (by omega)]; exact hA i i1 (by omega)) (fun i i1 i2 => ?_)
          rw [up2_at, if_pos rfl]
          by_cases e : i = k + 1
          · subst e; rw [if_pos rfl]; exact (gx_wrap (by omega) hcar h6).symm
          · rw [if_neg e]; exact hB i (by omega) i2
        · refine j_aload_n C dX6_nextOnGrid_23 rfl rfl ?_
          refine g_getR C (by assumption) fl_X6_19 (by rfl) dX6_nextOnGrid_24 ?_
          refine j_iload_n C dX6_nextOnGrid_27 rfl rfl ?_
          refine j_dup2 C dX6_nextOnGrid_28 rfl rfl ?_
          refine g_lald C (so4) (by omega) (by decide) dX6_nextOnGrid_29 ?_
          refine t_l (hA k (by omega) (by omega)) ?_
          refine j_lconst (v := 1) C dX6_nextOnGrid_30 (by decide) ?_
          refine j_ladd C dX6_nextOnGrid_31 ?_
          refine g_last C (so4) (by omega) (by decide) dX6_nextOnGrid_32 ?_
          have h6 : t / 7 ^ (n - k) % 7 ≠ 6 := fun q => h_20 ((gx_lt3 (by omega)).mpr q)
          refine j_vret C hr dX6_nextOnGrid_33 ⟨rfl, up2_I hF (by omega) (by omega), ?_, fun i i1 i2 => ?_⟩
          · rw [up2_at, if_pos rfl, if_neg (by omega)]; exact h00
          · rw [up2_at, if_pos rfl]; by_cases e : i = k
            · subst e; rw [if_pos rfl]; exact (gx_inc i1 hcar h6).symm
            · rw [if_neg e]; by_cases e2 : k < i
              · exact hB i e2 i2
              · rw [hA i i1 (by omega)]; refine (gx_keep i1 ?_).symm
                have h7 : (t + 1) % 7 ^ (n - k + 1) ≠ 0 := fun q => h6 ((dig_up hcar).mp q)
                rw [show n - k + 1 = n - (k - 1) by omega] at h7
                exact pw_no (by omega) h7 i (by omega)
  refine j_aload_n C dX6_nextOnGrid_0 rfl rfl ?_
  refine g_getI C (by assumption) fl_X6_60 (by rfl) dX6_nextOnGrid_1 ?_
  refine t_i rN ?_
  refine j_istore_n C dX6_nextOnGrid_4 rfl (by decide) ?_
  exact lp (n + 1) n L (by omega) (by omega) Fm.rf rfl (by rw [Nat.sub_self, Nat.pow_zero, Nat.mod_one]) hw (fun i i1 i2 => by omega)

set_option maxHeartbeats 4000000 in
set_option maxRecDepth 20000 in
theorem c_X6_wholePointFound (l : Launch) (G : GT) (rg : RgT) (I : II) (L : LL) (n g cn : Nat) (gv cv : Nat → Int32) (hss : isSS rg) (hg : g < 12) (hc : cn < 12) (hgv : ∀ q, q < 25 → I (203 + 2 * g) q = gv q) (hcv : ∀ q, q < 25 → I (203 + 2 * cn) q = cv q) (rN : I 0 10 = nI n) (hn : n < 5) : CtI l yX6_wholePointFound cX6_wholePointFound 5 (some FieldType.boolean) 5 G rg I L [.ref (gB G + 0), .ref (gB G + (202 + 2 * g)), .ref (gB G + (202 + 2 * cn))] (fun r I1 L1 => I = I1 ∧ (∀ q, q ≠ 3 → ¬ (193 ≤ q ∧ q < 197) → L1 q = L q) ∧ ((r = b2i true ∧ ∃ t, wpO n gv cv (7 ^ n) 0 = some t ∧ ∀ k, 1 ≤ k → k ≤ n → fr L1 (192 + k) = (gx n t k, 1)) ∨ (r = b2i false ∧ wpO n gv cv (7 ^ n) 0 = none))) := by
  refine ctI_of [some (.ref (gB G + 0)), some (.ref (gB G + (202 + 2 * g))), some (.ref (gB G + (202 + 2 * cn))), none, none] rfl (Nat.le_of_ble_eq_true rfl) (by decide) ?_
  intro p e s m args below meth c C hr
  obtain ⟨so1, so2, so3, so4, so5, so6, so7, so8, so9, so10, so11, so12⟩ := id hss
  have fm1 := so12 g hg
  have fm2 := so12 cn hc
  have hp7 := pow7 hn
  have lp : ∀ (fuel : Nat) (k : Nat) (L1 : LL), n + 1 < fuel + k → k ≤ n + 1 → 1 ≤ k → Fm 3 4 L L1 → L1 3 0 = 1 → (∀ i, 1 ≤ i → i < k → L1 3 i = -3) → J p l e (rmD 5) s m args below meth c (MQ below (QI G rg (fun r I1 L1 => I = I1 ∧ (∀ q, q ≠ 3 → ¬ (193 ≤ q ∧ q < 197) → L1 q = L q) ∧ ((r = b2i true ∧ ∃ t, wpO n gv cv (7 ^ n) 0 = some t ∧ ∀ k, 1 ≤ k → k ≤ n → fr L1 (192 + k) = (gx n t k, 1)) ∨ (r = b2i false ∧ wpO n gv cv (7 ^ n) 0 = none)))) args s 0 0 (rg_A G rg)) 5 G rg 0 0 I L1 12 [some (.ref (gB G + 0)), some (.ref (gB G + (202 + 2 * g))), some (.ref (gB G + (202 + 2 * cn))), some (.int (nI (7 ^ (k - 1)))), some (.int (nI k))] [] := by
    intro fuel
    induction fuel with
    | zero => intro k L1 h1 h2 h3 hF h00 hC; exfalso; omega
    | succ fuel ih_lp =>
      intro k L1 h1 h2 h3 hF h00 hC
      refine j_iload C dX6_wholePointFound_12 rfl ?_
      refine j_aload_n C dX6_wholePointFound_14 rfl rfl ?_
      refine g_getI C (by assumption) fl_X6_60 (by rfl) dX6_wholePointFound_15 ?_
      refine t_i rN ?_
      first | refine n_icmp_gt (tgt := 42) C (by omega) (by omega) dX6_wholePointFound_18 (by decide) (fun h_18 => ?_) (fun h_18 => ?_) | refine j_icmp_gt (tgt := 42) C dX6_wholePointFound_18 (by decide) (fun h_18 => ?_) (fun h_18 => ?_)
      · refine j_iconst (v := nI 0) C dX6_wholePointFound_42 (by decide) ?_
        refine j_istore C dX6_wholePointFound_43 (by decide) ?_
        have hk : k = n + 1 := by omega
        subst hk
        rw [show n + 1 - 1 = n by omega]
        have lq : ∀ (fuel : Nat) (t : Nat) (L1 : LL), 7 ^ n < fuel + t → t ≤ 7 ^ n → Fm 3 4 L L1 → (∀ k, k ≤ n → L1 3 k = gx n t k) → wpO n gv cv (7 ^ n - t) t = wpO n gv cv (7 ^ n) 0 → J p l e (rmD 5) s m args below meth c (MQ below (QI G rg (fun r I1 L1 => I = I1 ∧ (∀ q, q ≠ 3 → ¬ (193 ≤ q ∧ q < 197) → L1 q = L q) ∧ ((r = b2i true ∧ ∃ t, wpO n gv cv (7 ^ n) 0 = some t ∧ ∀ k, 1 ≤ k → k ≤ n → fr L1 (192 + k) = (gx n t k, 1)) ∨ (r = b2i false ∧ wpO n gv cv (7 ^ n) 0 = none)))) args s 0 0 (rg_A G rg)) 5 G rg 0 0 I L1 45 [some (.ref (gB G + 0)), some (.ref (gB G + (202 + 2 * g))), some (.ref (gB G + (202 + 2 * cn))), some (.int (nI (7 ^ n))), some (.int (nI t))] [] := by
          intro fuel
          induction fuel with
          | zero => intro t L1 q1 q2 hF hW he; exfalso; omega
          | succ fuel ih_lq =>
            intro t L1 q1 q2 hF hW he
            refine j_iload C dX6_wholePointFound_45 rfl ?_
            refine j_iload_n C dX6_wholePointFound_47 rfl rfl ?_
            first | refine n_icmp_ge (tgt := 112) C (by omega) (by omega) dX6_wholePointFound_48 (by decide) (fun h_48 => ?_) (fun h_48 => ?_) | refine j_icmp_ge (tgt := 112) C dX6_wholePointFound_48 (by decide) (fun h_48 => ?_) (fun h_48 => ?_)
            · refine j_iconst (v := nI 0) C dX6_wholePointFound_112 (by decide) ?_
              exact j_zret C hr (by first | rfl | exact b2i_n _ rfl) dX6_wholePointFound_113 (⟨rfl, fun q q1 q2 => hF.at (by omega), Or.inr ⟨rfl, by rw [← he, show 7 ^ n - t = 0 by omega]; rfl⟩⟩)
            · refine j_aload_n C dX6_wholePointFound_51 rfl rfl ?_
              refine j_aload_n C dX6_wholePointFound_52 rfl rfl ?_
              refine g_getR C (by assumption) fl_X6_19 (by rfl) dX6_wholePointFound_53 ?_
              refine j_aload_n C dX6_wholePointFound_56 rfl rfl ?_
              refine g_getI C (by assumption) fl_X6_60 (by rfl) dX6_wholePointFound_57 ?_
              refine t_i rN ?_
              refine g_cvL C vc_X6_104 (c_X1_atWhole l G rg _ _ _ _ _ fm2 so4 hn) ⟨Nat.le_of_ble_eq_true rfl, Nat.le_of_ble_eq_true rfl⟩ (fm2.1) rfl rfl (Nat.le_of_ble_eq_true rfl) ⟨Nat.zero_le _, Nat.zero_le _⟩ dX6_wholePointFound_60 (fun r_60 I_60 L_60 p_60 => ?_)
              obtain ⟨rfl, rfl, rfl⟩ := p_60
              refine t_l (y := inI cv (gx n t) n (n + 1) 0) (inI_cong hn (fun q hq => by rw [show 202 + 2 * cn + 1 = 203 + 2 * cn by omega]; exact hcv q hq) (fun q hq => hW q hq) _ _) ?_
              refine j_lconst (v := 0) C dX6_wholePointFound_63 (by decide) ?_
              refine j_lc_lt (tgt := 102) C dX6_wholePointFound_64 dX6_wholePointFound_65 (by decide) (fun h_65 => ?_) (fun h_65 => ?_)
              · refine j_aload_n C dX6_wholePointFound_102 rfl rfl ?_
                refine g_cvV C vc_X6_233 (c_X6_nextOnGrid l G rg _ _ n t hss rN hn (fun k k1 k2 => hW k k2)) ⟨Nat.le_of_ble_eq_true rfl, Nat.le_of_ble_eq_true rfl⟩ (so1) rfl rfl (Nat.le_of_ble_eq_true rfl) ⟨Nat.zero_le _, Nat.zero_le _⟩ dX6_wholePointFound_103 (fun I_103 L_103 p_103 => ?_)
                obtain ⟨rfl, hG3, h30, hC3⟩ := p_103
                first | refine n_iinc (n := 1) C dX6_wholePointFound_106 rfl (by decide) ?_ | refine j_iinc C dX6_wholePointFound_106 rfl rfl (by decide) ?_
                refine j_goto (tgt := 45) C dX6_wholePointFound_109 (by decide) ?_
                have hW1 : ∀ k, k ≤ n → L_103 3 k = gx n (t + 1) k := fun k hk => by by_cases e : k = 0; (subst e; rw [h30, hW 0 (by omega)]; rfl); exact hC3 k (by omega) hk
                first
                | exact ih_lq (t + 1) _ (by omega) (by omega) (hF.trans hG3) hW1 (by rw [← he, show 7 ^ n - t = (7 ^ n - (t + 1)) + 1 by omega, wpO, if_neg (fun z => Int64.not_le.mpr h_65 z.1)])
                | exact ih_lq (t + 1) _ (by omega) (by omega) (hF.trans hG3) hW1 (by rw [← he, show 7 ^ n - t = (7 ^ n - (t + 1)) + 1 by omega, wpO, if_neg (fun z => Int64.not_lt.mpr h_82 z.2)])
              · refine j_aload_n C dX6_wholePointFound_68 rfl rfl ?_
                refine j_aload_n C dX6_wholePointFound_69 rfl rfl ?_
                refine g_getR C (by assumption) fl_X6_19 (by rfl) dX6_wholePointFound_70 ?_
                refine j_aload_n C dX6_wholePointFound_73 rfl rfl ?_
                refine g_getI C (by assumption) fl_X6_60 (by rfl) dX6_wholePointFound_74 ?_
                refine t_i rN ?_
                refine g_cvL C vc_X6_104 (c_X1_atWhole l G rg _ _ _ _ _ fm1 so4 hn) ⟨Nat.le_of_ble_eq_true rfl, Nat.le_of_ble_eq_true rfl⟩ (fm1.1) rfl rfl (Nat.le_of_ble_eq_true rfl) ⟨Nat.zero_le _, Nat.zero_le _⟩ dX6_wholePointFound_77 (fun r_77 I_77 L_77 p_77 => ?_)
                obtain ⟨rfl, rfl, rfl⟩ := p_77
                refine t_l (y := inI gv (gx n t) n (n + 1) 0) (inI_cong hn (fun q hq => by rw [show 202 + 2 * g + 1 = 203 + 2 * g by omega]; exact hgv q hq) (fun q hq => hW q hq) _ _) ?_
                refine j_lconst (v := 0) C dX6_wholePointFound_80 (by decide) ?_
                refine j_lc_ge (tgt := 102) C dX6_wholePointFound_81 dX6_wholePointFound_82 (by decide) (fun h_82 => ?_) (fun h_82 => ?_)
                · refine j_aload_n C dX6_wholePointFound_102 rfl rfl ?_
                  refine g_cvV C vc_X6_233 (c_X6_nextOnGrid l G rg _ _ n t hss rN hn (fun k k1 k2 => hW k k2)) ⟨Nat.le_of_ble_eq_true rfl, Nat.le_of_ble_eq_true rfl⟩ (so1) rfl rfl (Nat.le_of_ble_eq_true rfl) ⟨Nat.zero_le _, Nat.zero_le _⟩ dX6_wholePointFound_103 (fun I_103 L_103 p_103 => ?_)
                  obtain ⟨rfl, hG3, h30, hC3⟩ := p_103
                  first | refine n_iinc (n := 1) C dX6_wholePointFound_106 rfl (by decide) ?_ | refine j_iinc C dX6_wholePointFound_106 rfl rfl (by decide) ?_
                  refine j_goto (tgt := 45) C dX6_wholePointFound_109 (by decide) ?_
                  have hW1 : ∀ k, k ≤ n → L_103 3 k = gx n (t + 1) k := fun k hk => by by_cases e : k = 0; (subst e; rw [h30, hW 0 (by omega)]; rfl); exact hC3 k (by omega) hk
                  first
                  | exact ih_lq (t + 1) _ (by omega) (by omega) (hF.trans hG3) hW1 (by rw [← he, show 7 ^ n - t = (7 ^ n - (t + 1)) + 1 by omega, wpO, if_neg (fun z => Int64.not_le.mpr h_65 z.1)])
                  | exact ih_lq (t + 1) _ (by omega) (by omega) (hF.trans hG3) hW1 (by rw [← he, show 7 ^ n - t = (7 ^ n - (t + 1)) + 1 by omega, wpO, if_neg (fun z => Int64.not_lt.mpr h_82 z.2)])
                · refine j_aload_n C dX6_wholePointFound_85 rfl rfl ?_
                  refine g_getR C (by assumption) fl_X6_43 (by rfl) dX6_wholePointFound_86 ?_
                  refine j_aload_n C dX6_wholePointFound_89 rfl rfl ?_
                  refine g_getR C (by assumption) fl_X6_19 (by rfl) dX6_wholePointFound_90 ?_
                  refine j_aload_n C dX6_wholePointFound_93 rfl rfl ?_
                  refine g_getI C (by assumption) fl_X6_60 (by rfl) dX6_wholePointFound_94 ?_
                  refine t_i rN ?_
                  refine g_cvV C vc_X6_229 (c_X4_takeWhole l G rg _ _ 190 3 n so8 so4 (by omega) hn (fun k hk => by rw [hW k hk]; exact gx_ne)) ⟨Nat.le_of_ble_eq_true rfl, Nat.le_of_ble_eq_true rfl⟩ (so8.1) rfl rfl (Nat.le_of_ble_eq_true rfl) ⟨Nat.zero_le _, Nat.zero_le _⟩ dX6_wholePointFound_97 (fun I_97 L_97 p_97 => ?_)
                  obtain ⟨rfl, hG97, hC97⟩ := p_97
                  refine j_iconst (v := nI 1) C dX6_wholePointFound_100 (by decide) ?_
                  exact j_zret C hr (by first | rfl | exact b2i_n _ rfl) dX6_wholePointFound_101 (⟨rfl, fun q q1 q2 => (hG97.at (by omega)).trans (hF.at (by omega)), Or.inl ⟨rfl, t, by rw [← he, show 7 ^ n - t = (7 ^ n - t - 1) + 1 by omega, wpO, if_pos ⟨Int64.not_lt.mp h_65, Int64.not_le.mp h_82⟩], fun k k1 k2 => by rw [hC97 k k1 k2, hW k k2]⟩⟩)
        exact lq (7 ^ n + 1) 0 L1 (by omega) (Nat.zero_le _) hF (fun i hi => by by_cases e : i = 0; (subst e; exact h00); (rw [gx_0 (by omega)]; exact hC i (by omega) (by omega))) (by rw [Nat.sub_zero])
      · refine j_aload_n C dX6_wholePointFound_21 rfl rfl ?_
        refine g_getR C (by assumption) fl_X6_19 (by rfl) dX6_wholePointFound_22 ?_
        refine j_iload C dX6_wholePointFound_25 rfl ?_
        refine j_ldc2 C kc_X6_227 dX6_wholePointFound_27 ?_
        refine g_last C (so4) (by omega) (by decide) dX6_wholePointFound_30 ?_
        refine j_iload_n C dX6_wholePointFound_31 rfl rfl ?_
        refine j_bipush (v := nI 7) C dX6_wholePointFound_32 (by decide) ?_
        first | refine n_imul C dX6_wholePointFound_34 ?_ | refine j_imul C dX6_wholePointFound_34 ?_
        refine t_i (y := nI (7 ^ (k + 1 - 1))) (by rw [show k + 1 - 1 = (k - 1) + 1 by omega, Nat.pow_succ]) ?_
        refine j_istore_n C dX6_wholePointFound_35 rfl (by decide) ?_
        first | refine n_iinc (n := 1) C dX6_wholePointFound_36 rfl (by decide) ?_ | refine j_iinc C dX6_wholePointFound_36 rfl rfl (by decide) ?_
        refine j_goto (tgt := 12) C dX6_wholePointFound_39 (by decide) ?_
        refine ih_lp (k + 1) _ (by omega) (by omega) (by omega) (up2_I hF (by omega) (by omega)) (by rw [up2_at, if_pos rfl, if_neg (by omega)]; exact h00) (fun i i1 i2 => ?_)
        rw [up2_at, if_pos rfl]
        by_cases e : i = k
        · rw [if_pos e]
        · rw [if_neg e]; exact hC i i1 (by omega)
  refine j_iconst (v := nI 1) C dX6_wholePointFound_0 (by decide) ?_
  refine j_istore_n C dX6_wholePointFound_1 rfl (by decide) ?_
  refine j_aload_n C dX6_wholePointFound_2 rfl rfl ?_
  refine g_getR C (by assumption) fl_X6_19 (by rfl) dX6_wholePointFound_3 ?_
  refine j_iconst (v := nI 0) C dX6_wholePointFound_6 (by decide) ?_
  refine j_lconst (v := 1) C dX6_wholePointFound_7 (by decide) ?_
  refine g_last C (so4) (by omega) (by decide) dX6_wholePointFound_8 ?_
  refine j_iconst (v := nI 1) C dX6_wholePointFound_9 (by decide) ?_
  refine j_istore C dX6_wholePointFound_10 (by decide) ?_
  by_cases hn0 : n = 0
  · subst hn0; exact lp 2 1 _ (by omega) (by omega) (by omega) (up2_I Fm.rf (by omega) (by omega)) (by rw [up2_at, if_pos rfl, if_pos rfl]) (fun i i1 i2 => by omega)
  · exact lp (n + 2) 1 _ (by omega) (by omega) (by omega) (up2_I Fm.rf (by omega) (by omega)) (by rw [up2_at, if_pos rfl, if_pos rfl]) (fun i i1 i2 => by omega)
