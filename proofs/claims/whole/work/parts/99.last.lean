/-! ===== the model: isThere ===== -/
theorem wq_hit {n N t : Nat} {g c : Nat → Int32} (ht : t < N) (h1 : ¬ inI c (gx n t) n (n + 1) 0 < 0) (h2 : ¬ 0 ≤ inI g (gx n t) n (n + 1) 0) : wpO n g c (N - t) t = some t := by
  rw [show N - t = (N - t - 1) + 1 by omega, wpO, if_pos ⟨Int64.not_lt.mp h1, Int64.not_le.mp h2⟩]
theorem wq_n1 {n N t : Nat} {g c : Nat → Int32} (ht : t < N) (h1 : inI c (gx n t) n (n + 1) 0 < 0) : wpO n g c (N - t) t = wpO n g c (N - (t + 1)) (t + 1) := by
  rw [show N - t = (N - t - 1) + 1 by omega, wpO, if_neg (fun q => absurd q.1 (Int64.not_le.mpr h1)), show N - (t + 1) = N - t - 1 by omega]
theorem wq_n2 {n N t : Nat} {g c : Nat → Int32} (ht : t < N) (h1 : 0 ≤ inI g (gx n t) n (n + 1) 0) : wpO n g c (N - t) t = wpO n g c (N - (t + 1)) (t + 1) := by
  rw [show N - t = (N - t - 1) + 1 by omega, wpO, if_neg (fun q => absurd q.2 (Int64.not_lt.mpr h1)), show N - (t + 1) = N - t - 1 by omega]
theorem nI_le0 {k : Nat} (hk : k < 2 ^ 20) : nI k ≤ 0 ↔ k = 0 := by
  rw [Int32.le_iff_toInt_le, nI_toInt (by omega), i32_0]; omega
theorem dg_7 {n t u : Nat} (hu : u + 1 ≤ n) : t / 7 ^ (n - (u + 1)) / 7 = t / 7 ^ (n - u) := by
  rw [Nat.div_div_eq_div_mul, show n - u = n - (u + 1) + 1 by omega, Nat.pow_succ]
theorem gx_l {n t k d : Nat} (hk : 1 ≤ k) (hd : d = t / 7 ^ (n - k) % 7) : (nI d - nI 3).toInt64 = gx n t k := by
  unfold gx
  rw [if_neg (by omega), ← hd]
  have h7 : d < 7 := by rw [hd]; exact Nat.mod_lt _ (by decide)
  rcases (show d = 0 ∨ d = 1 ∨ d = 2 ∨ d = 3 ∨ d = 4 ∨ d = 5 ∨ d = 6 by omega) with e | e | e | e | e | e | e <;> rw [e] <;> decide
theorem p7_lt {n : Nat} (hn : n < 5) : 7 ^ n < 2 ^ 20 := by
  rcases (show n = 0 ∨ n = 1 ∨ n = 2 ∨ n = 3 ∨ n = 4 by omega) with e | e | e | e | e <;> rw [e] <;> decide
theorem th_s {n t u : Nat} {I1 : II} (h : ∀ j, u + 1 < j → j ≤ n → I1 2 j = nI (t / 7 ^ (n - j) % 7) - nI 3) : ∀ j, u < j → j ≤ n → up2 I1 2 (u + 1) (nI (t / 7 ^ (n - (u + 1)) % 7) - nI 3) 2 j = nI (t / 7 ^ (n - j) % 7) - nI 3 := fun j j1 j2 => by
  rw [up2_at, if_pos rfl]
  by_cases e : j = u + 1
  · rw [if_pos e, e]
  · rw [if_neg e]; exact h j (by omega) j2
theorem ep_v {L1 : LL} {V : Nat → Int64} {k : Nat} (h : ∀ j, 1 ≤ j → j < k → (L1 21 j, L1 22 j) = (V j, 1)) : ∀ j, 1 ≤ j → j < k + 1 → (up2 (up2 L1 21 k (V k)) 22 k 1 21 j, up2 (up2 L1 21 k (V k)) 22 k 1 22 j) = (V j, 1) := ep_s (V := fun j => (V j, 1)) h
def ITQ (n : Nat) (gv cv : Nat → Int32) (I : II) (L : LL) (r : Int32) (I1 : II) (L1 : LL) : Prop := (∀ q, q ≠ 2 → I1 q = I q) ∧ (∀ q, q ≠ 21 → q ≠ 22 → L1 q = L q) ∧ ((r = b2i true ∧ ∃ t, wpO n gv cv (7 ^ n) 0 = some t ∧ ∀ k, 1 ≤ k → k ≤ n → (L1 21 k, L1 22 k) = (gx n t k, 1)) ∨ (r = b2i false ∧ wpO n gv cv (7 ^ n) 0 = none))
set_option maxHeartbeats 4000000 in
set_option maxRecDepth 20000 in
theorem c_X7_isThere (l : Launch) (G : GT) (rg : RgT) (I : II) (L : LL) (n gi ci : Nat) (gv cv : Nat → Int32) (hms : isMS rg) (hn : I 0 0 = nI n) (hn4 : n < 5) (h1n : 1 ≤ n) (hgi : I 0 36 = nI gi) (hci : I 0 37 = nI ci) (hg12 : gi < 12) (hc12 : ci < 12) (hgv : ∀ k, k < 25 → I 1 (25 * gi + k) = gv k) (hcv : ∀ k, k < 25 → I 1 (25 * ci + k) = cv k) : CtI l yX7_isThere cX7_isThere 5 (some FieldType.boolean) 6 G rg I L [.ref (gB G + 0)] (ITQ n gv cv I L) := by
  refine ctI_of [some (.ref (gB G + 0)), none, none, none, none] rfl (Nat.le_of_ble_eq_true rfl) (by decide) ?_
  intro p e s m args below meth c C hr
  obtain ⟨o0, a1, a2, a3, a4, a5, a6, a7, a8, a9, a10, a11, a12, a13, a14, a15, a16, a17, a18, a19, a20, a21, a22, a23, a24, a25, a26⟩ := id hms
  have hp7 := p7_lt hn4
  have hp0 : 0 < 7 ^ n := Nat.pow_pos (by decide)
  refine j_aload_n C dX7_isThere_0 rfl rfl ?_
  refine g_getR C (o0) fl_X7_17 (by rfl) dX7_isThere_1 ?_
  refine j_iconst (v := nI 0) C dX7_isThere_4 (by decide) ?_
  refine j_iconst (v := 1) C dX7_isThere_5 (by decide) ?_
  refine g_iast C (a2) (by decide) (by decide) dX7_isThere_6 ?_
  obtain ⟨Ia, hIa⟩ : ∃ z, z = up2 I 2 0 1 := ⟨_, rfl⟩
  rw [← hIa]
  have ia : ∀ q, q ≠ 2 → Ia q = I q := fun q hq => by rw [hIa, up2_ne _ hq]
  have ia0 : Ia 2 0 = 1 := by rw [hIa, up2_at]; simp
  have st : J p l e (rmD 6) s m args below meth c (MQ below (QI G rg (ITQ n gv cv I L)) args s 0 0 (rg_A G rg)) 5 G rg 0 0 Ia L 50 [some (.ref (gB G + 0)), none, none, none, none] [.int (nI (7 ^ n))] := by
    refine j_istore_n C dX7_isThere_50 rfl (by decide) ?_
    refine j_iconst (v := nI 0) C dX7_isThere_51 (by decide) ?_
    refine j_istore_n C dX7_isThere_52 rfl (by decide) ?_
    have lp : ∀ (fuel : Nat) (t : Nat) (I1 : II), 7 ^ n < fuel + t → t ≤ 7 ^ n → (∀ q, q ≠ 2 → I1 q = I q) → I1 2 0 = 1 → wpO n gv cv (7 ^ n - t) t = wpO n gv cv (7 ^ n) 0 → J p l e (rmD 6) s m args below meth c (MQ below (QI G rg (ITQ n gv cv I L)) args s 0 0 (rg_A G rg)) 5 G rg 0 0 I1 L 53 [some (.ref (gB G + 0)), some (.int (nI (7 ^ n))), some (.int (nI t)), none, none] [] := by
      intro fuel
      induction fuel with
      | zero => intro t I1 h1 h2 hI1 hI10 hW; exfalso; omega
      | succ fuel ih_lp =>
        intro t I1 h1 h2 hI1 hI10 hW
        refine j_iload_n C dX7_isThere_53 rfl rfl ?_
        refine j_iload_n C dX7_isThere_54 rfl rfl ?_
        first | refine n_icmp_ge (tgt := 170) C (by omega) (by omega) dX7_isThere_55 (by decide) (fun h_55 => ?_) (fun h_55 => ?_) | refine j_icmp_ge (tgt := 170) C dX7_isThere_55 (by decide) (fun h_55 => ?_) (fun h_55 => ?_)
        · refine j_iconst (v := nI 0) C dX7_isThere_170 (by decide) ?_
          exact j_zret C hr rfl dX7_isThere_171 ⟨hI1, fun _ _ _ => rfl, Or.inr ⟨rfl, by rw [← hW, show 7 ^ n - t = 0 by omega]; rfl⟩⟩
        · refine j_iload_n C dX7_isThere_58 rfl rfl ?_
          refine j_istore_n C dX7_isThere_59 rfl (by decide) ?_
          refine j_aload_n C dX7_isThere_60 rfl rfl ?_
          refine g_getI C (o0) fl_X7_7 (by rfl) dX7_isThere_61 ?_
          refine t_i (y := nI n) (by rw [hI1 0 (by decide)]; exact hn) ?_
          refine j_istore C dX7_isThere_64 (by decide) ?_
          refine t_lv (show _ = [some (.ref (gB G + 0)), some (.int (nI (7 ^ n))), some (.int (nI t)), some (.int (nI (t / 7 ^ (n - n)))), some (.int (nI n))] from by rw [Nat.sub_self, Nat.pow_zero, Nat.div_one]; rfl) ?_
          have lk : ∀ (fuel : Nat) (k : Nat) (I2 : II), k < fuel → k ≤ n → (∀ q, q ≠ 2 → I2 q = I q) → I2 2 0 = 1 → (∀ j, k < j → j ≤ n → I2 2 j = nI (t / 7 ^ (n - j) % 7) - nI 3) → J p l e (rmD 6) s m args below meth c (MQ below (QI G rg (ITQ n gv cv I L)) args s 0 0 (rg_A G rg)) 5 G rg 0 0 I2 L 66 [some (.ref (gB G + 0)), some (.int (nI (7 ^ n))), some (.int (nI t)), some (.int (nI (t / 7 ^ (n - k)))), some (.int (nI k))] [] := by
            intro fuel
            induction fuel with
            | zero => intro k I2 u1 u2 hI2 hI20 hI2j; exfalso; omega
            | succ fuel ih_lk =>
              intro k I2 u1 u2 hI2 hI20 hI2j
              refine j_iload C dX7_isThere_66 rfl ?_
              refine j_if_le (tgt := 95) C dX7_isThere_68 (by decide) (fun h_68 => ?_) (fun h_68 => ?_)
              · have hk0 : k = 0 := (nI_le0 (by omega)).mp h_68
                subst hk0
                have hxx : ∀ j, j ≤ n → (I2 2 j).toInt64 = gx n t j := fun j hj => by by_cases e : j = 0; (subst e; rw [hI20]; rfl); (rw [hI2j j (by omega) hj]; exact gx_l (by omega) rfl)
                refine j_aload_n C dX7_isThere_95 rfl rfl ?_
                refine j_aload_n C dX7_isThere_96 rfl rfl ?_
                refine g_getI C (o0) fl_X7_239 (by rfl) dX7_isThere_97 ?_
                refine t_i (y := nI ci) (by rw [hI2 0 (by decide)]; exact hci) ?_
                refine g_cvL C vc_X7_133 (c_X7_worth l G rg _ _ n ci cv (gx n t) hms (by rw [hI2 0 (by decide)]; exact hn) hn4 (by omega) (fun k hk => by rw [hI2 1 (by decide)]; exact hcv k hk) hxx) ⟨Nat.le_of_ble_eq_true rfl, Nat.le_of_ble_eq_true rfl⟩ (o0) rfl rfl (Nat.le_of_ble_eq_true rfl) ⟨Nat.zero_le _, Nat.zero_le _⟩ dX7_isThere_100 (fun r_100 I_100 L_100 p_100 => ?_)
                obtain ⟨rfl, rfl, rfl⟩ := p_100
                refine j_lconst (v := 0) C dX7_isThere_103 (by decide) ?_
                refine j_lc_lt (tgt := 164) C dX7_isThere_104 dX7_isThere_105 (by decide) (fun h_105 => ?_) (fun h_105 => ?_)
                · first | refine n_iinc (n := 1) C dX7_isThere_164 rfl (by decide) ?_ | refine j_iinc C dX7_isThere_164 rfl rfl (by decide) ?_
                  refine j_goto (tgt := 53) C dX7_isThere_167 (by decide) ?_
                  refine j_rm 4 ?_
                  refine j_rm 3 ?_
                  first
                  | exact ih_lp (t + 1) I2 (by omega) (by omega) hI2 hI20 ((wq_n1 (by omega) h_105).symm.trans hW)
                  | exact ih_lp (t + 1) I2 (by omega) (by omega) hI2 hI20 ((wq_n2 (by omega) h_118).symm.trans hW)
                · refine j_aload_n C dX7_isThere_108 rfl rfl ?_
                  refine j_aload_n C dX7_isThere_109 rfl rfl ?_
                  refine g_getI C (o0) fl_X7_236 (by rfl) dX7_isThere_110 ?_
                  refine t_i (y := nI gi) (by rw [hI2 0 (by decide)]; exact hgi) ?_
                  refine g_cvL C vc_X7_133 (c_X7_worth l G rg _ _ n gi gv (gx n t) hms (by rw [hI2 0 (by decide)]; exact hn) hn4 (by omega) (fun k hk => by rw [hI2 1 (by decide)]; exact hgv k hk) hxx) ⟨Nat.le_of_ble_eq_true rfl, Nat.le_of_ble_eq_true rfl⟩ (o0) rfl rfl (Nat.le_of_ble_eq_true rfl) ⟨Nat.zero_le _, Nat.zero_le _⟩ dX7_isThere_113 (fun r_113 I_113 L_113 p_113 => ?_)
                  obtain ⟨rfl, rfl, rfl⟩ := p_113
                  refine j_lconst (v := 0) C dX7_isThere_116 (by decide) ?_
                  refine j_lc_ge (tgt := 164) C dX7_isThere_117 dX7_isThere_118 (by decide) (fun h_118 => ?_) (fun h_118 => ?_)
                  · first | refine n_iinc (n := 1) C dX7_isThere_164 rfl (by decide) ?_ | refine j_iinc C dX7_isThere_164 rfl rfl (by decide) ?_
                    refine j_goto (tgt := 53) C dX7_isThere_167 (by decide) ?_
                    refine j_rm 4 ?_
                    refine j_rm 3 ?_
                    first
                    | exact ih_lp (t + 1) I2 (by omega) (by omega) hI2 hI20 ((wq_n1 (by omega) h_105).symm.trans hW)
                    | exact ih_lp (t + 1) I2 (by omega) (by omega) hI2 hI20 ((wq_n2 (by omega) h_118).symm.trans hW)
                  · refine j_iconst (v := nI 1) C dX7_isThere_121 (by decide) ?_
                    refine j_istore C dX7_isThere_122 (by decide) ?_
                    have le : ∀ (fuel : Nat) (k : Nat) (L1 : LL), n + 1 < fuel + k → 1 ≤ k → k ≤ n + 1 → (∀ q, q ≠ 21 → q ≠ 22 → L1 q = L q) → (∀ j, 1 ≤ j → j < k → (L1 21 j, L1 22 j) = (gx n t j, 1)) → J p l e (rmD 6) s m args below meth c (MQ below (QI G rg (ITQ n gv cv I L)) args s 0 0 (rg_A G rg)) 5 G rg 0 0 I2 L1 124 [some (.ref (gB G + 0)), some (.int (nI (7 ^ n))), some (.int (nI t)), some (.int (nI (t / 7 ^ (n - 0)))), some (.int (nI k))] [] := by
                      intro fuel
                      induction fuel with
                      | zero => intro k L1 v1 v2 v3 hLq hP; exfalso; omega
                      | succ fuel ih_le =>
                        intro k L1 v1 v2 v3 hLq hP
                        refine j_iload C dX7_isThere_124 rfl ?_
                        refine j_aload_n C dX7_isThere_126 rfl rfl ?_
                        refine g_getI C (o0) fl_X7_7 (by rfl) dX7_isThere_127 ?_
                        refine t_i (y := nI n) (by rw [hI2 0 (by decide)]; exact hn) ?_
                        first | refine n_icmp_gt (tgt := 162) C (by omega) (by omega) dX7_isThere_130 (by decide) (fun h_130 => ?_) (fun h_130 => ?_) | refine j_icmp_gt (tgt := 162) C dX7_isThere_130 (by decide) (fun h_130 => ?_) (fun h_130 => ?_)
                        · refine j_iconst (v := nI 1) C dX7_isThere_162 (by decide) ?_
                          exact j_zret C hr rfl dX7_isThere_163 ⟨hI2, hLq, Or.inl ⟨rfl, t, hW.symm.trans (wq_hit (by omega) h_105 h_118), fun j j1 j2 => hP j j1 (by omega)⟩⟩
                        · refine j_aload_n C dX7_isThere_133 rfl rfl ?_
                          refine g_getR C (o0) fl_X7_76 (by rfl) dX7_isThere_134 ?_
                          refine j_iload C dX7_isThere_137 rfl ?_
                          refine j_aload_n C dX7_isThere_139 rfl rfl ?_
                          refine g_getR C (o0) fl_X7_17 (by rfl) dX7_isThere_140 ?_
                          refine j_iload C dX7_isThere_143 rfl ?_
                          refine g_iald C (a2) (by omega) (by decide) dX7_isThere_145 ?_
                          refine j_i2l C dX7_isThere_146 ?_
                          refine t_l (hxx k (by omega)) ?_
                          refine g_last C (a21) (by omega) (by decide) dX7_isThere_147 ?_
                          refine j_aload_n C dX7_isThere_148 rfl rfl ?_
                          refine g_getR C (o0) fl_X7_79 (by rfl) dX7_isThere_149 ?_
                          refine j_iload C dX7_isThere_152 rfl ?_
                          refine j_lconst (v := 1) C dX7_isThere_154 (by decide) ?_
                          refine g_last C (a22) (by omega) (by decide) dX7_isThere_155 ?_
                          first | refine n_iinc (n := 1) C dX7_isThere_156 rfl (by decide) ?_ | refine j_iinc C dX7_isThere_156 rfl rfl (by decide) ?_
                          refine j_goto (tgt := 124) C dX7_isThere_159 (by decide) ?_
                          exact ih_le (k + 1) _ (by omega) (by omega) (by omega) (fun q a b => by rw [up2_ne _ b, up2_ne _ a]; exact hLq q a b) (ep_v hP)
                    exact le (n + 2) 1 L (by omega) (by omega) (by omega) (fun _ _ _ => rfl) (fun j a b => by omega)
              · obtain ⟨u, rfl⟩ : ∃ u, k = u + 1 := ⟨k - 1, by have : ¬ k = 0 := (fun q => h_68 ((nI_le0 (by omega)).mpr q)); omega⟩
                refine j_aload_n C dX7_isThere_71 rfl rfl ?_
                refine g_getR C (o0) fl_X7_17 (by rfl) dX7_isThere_72 ?_
                refine j_iload C dX7_isThere_75 rfl ?_
                refine j_iload_n C dX7_isThere_77 rfl rfl ?_
                refine j_bipush (v := nI 7) C dX7_isThere_78 (by decide) ?_
                have hrest : t / 7 ^ (n - (u + 1)) ≤ t := Nat.div_le_self _ _
                refine n_irem C (by omega) (by decide) (by decide) dX7_isThere_80 ?_
                refine j_iconst (v := nI 3) C dX7_isThere_81 (by decide) ?_
                refine j_isub C dX7_isThere_82 ?_
                refine g_iast C (a2) (by omega) (by decide) dX7_isThere_83 ?_
                refine j_iload_n C dX7_isThere_84 rfl rfl ?_
                refine j_bipush (v := nI 7) C dX7_isThere_85 (by decide) ?_
                refine n_idiv C (by omega) (by decide) (by decide) dX7_isThere_87 ?_
                rw [dg_7 (by omega)]
                refine j_istore_n C dX7_isThere_88 rfl (by decide) ?_
                first | refine n_idec C dX7_isThere_89 rfl (by decide) ?_ | refine j_iinc C dX7_isThere_89 rfl rfl (by decide) ?_
                refine j_goto (tgt := 66) C dX7_isThere_92 (by decide) ?_
                exact ih_lk u _ (by omega) (by omega) (fun q hq => by rw [up2_ne _ hq]; exact hI2 q hq) (by rw [up2_at, if_pos rfl, if_neg (by omega)]; exact hI20) (th_s hI2j)
          exact lk (n + 1) n I1 (by omega) (by omega) hI1 hI10 (fun j a b => by omega)
    exact lp (7 ^ n + 1) 0 Ia (by omega) (by omega) ia ia0 rfl
  refine j_aload_n C dX7_isThere_7 rfl rfl ?_
  refine g_getI C (o0) fl_X7_7 (by rfl) dX7_isThere_8 ?_
  refine t_i (y := nI n) (by rw [ia 0 (by decide)]; exact hn) ?_
  refine j_iconst (v := nI 1) C dX7_isThere_11 (by decide) ?_
  first | refine n_icmp_ne (tgt := 20) C (by omega) (by omega) dX7_isThere_12 (by decide) (fun h_12 => ?_) (fun h_12 => ?_) | refine j_icmp_ne (tgt := 20) C dX7_isThere_12 (by decide) (fun h_12 => ?_) (fun h_12 => ?_)
  · refine j_aload_n C dX7_isThere_20 rfl rfl ?_
    refine g_getI C (o0) fl_X7_7 (by rfl) dX7_isThere_21 ?_
    refine t_i (y := nI n) (by rw [ia 0 (by decide)]; exact hn) ?_
    refine j_iconst (v := nI 2) C dX7_isThere_24 (by decide) ?_
    first | refine n_icmp_ne (tgt := 33) C (by omega) (by omega) dX7_isThere_25 (by decide) (fun h_25 => ?_) (fun h_25 => ?_) | refine j_icmp_ne (tgt := 33) C dX7_isThere_25 (by decide) (fun h_25 => ?_) (fun h_25 => ?_)
    · refine j_aload_n C dX7_isThere_33 rfl rfl ?_
      refine g_getI C (o0) fl_X7_7 (by rfl) dX7_isThere_34 ?_
      refine t_i (y := nI n) (by rw [ia 0 (by decide)]; exact hn) ?_
      refine j_iconst (v := nI 3) C dX7_isThere_37 (by decide) ?_
      first | refine n_icmp_ne (tgt := 47) C (by omega) (by omega) dX7_isThere_38 (by decide) (fun h_38 => ?_) (fun h_38 => ?_) | refine j_icmp_ne (tgt := 47) C dX7_isThere_38 (by decide) (fun h_38 => ?_) (fun h_38 => ?_)
      · refine j_sipush (v := nI 2401) C dX7_isThere_47 (by decide) ?_
        refine t_i (y := nI (7 ^ n)) (by first | (rw [show n = 1 from h_12]; try rfl) | (rw [show n = 2 from h_25]; try rfl) | (rw [show n = 3 from h_38]; try rfl) | (rw [show n = 4 by omega]; try rfl)) ?_
        exact st
      · refine j_sipush (v := nI 343) C dX7_isThere_41 (by decide) ?_
        refine j_goto (tgt := 50) C dX7_isThere_44 (by decide) ?_
        refine t_i (y := nI (7 ^ n)) (by first | (rw [show n = 1 from h_12]; try rfl) | (rw [show n = 2 from h_25]; try rfl) | (rw [show n = 3 from h_38]; try rfl) | (rw [show n = 4 by omega]; try rfl)) ?_
        exact st
    · refine j_bipush (v := nI 49) C dX7_isThere_28 (by decide) ?_
      refine j_goto (tgt := 50) C dX7_isThere_30 (by decide) ?_
      refine t_i (y := nI (7 ^ n)) (by first | (rw [show n = 1 from h_12]; try rfl) | (rw [show n = 2 from h_25]; try rfl) | (rw [show n = 3 from h_38]; try rfl) | (rw [show n = 4 by omega]; try rfl)) ?_
      exact st
  · refine j_bipush (v := nI 7) C dX7_isThere_15 (by decide) ?_
    refine j_goto (tgt := 50) C dX7_isThere_17 (by decide) ?_
    refine t_i (y := nI (7 ^ n)) (by first | (rw [show n = 1 from h_12]; try rfl) | (rw [show n = 2 from h_25]; try rfl) | (rw [show n = 3 from h_38]; try rfl) | (rw [show n = 4 by omega]; try rfl)) ?_
    exact st
