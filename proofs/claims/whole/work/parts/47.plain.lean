/-! ===== the model: plain ===== -/
def SAVq (I : II) (L : LL) (I1 : II) (L1 : LL) : Prop := (∀ q, q ≠ 0 → q ≠ 14 → q ≠ 15 → q ≠ 18 → I1 q = I q) ∧ (∀ k, k ≠ 24 → I1 0 k = I 0 k) ∧ (∀ q, q ≠ 16 → q ≠ 17 → L1 q = L q) ∧ I1 0 24 = I 0 14 ∧ (∀ s, s < 5 → I1 14 s = I 8 s ∧ I1 15 s = I 13 s ∧ I1 18 s = vp_nar .boolean (I 7 s)) ∧ (∀ s, s < 5 → L1 16 s = L 9 s ∧ L1 16 (5 + s) = L 10 s) ∧ ∀ s, s < 25 → L1 17 s = L 11 s ∧ L1 17 (25 + s) = L 12 s
def RESq (I : II) (L : LL) (I1 : II) (L1 : LL) : Prop := (∀ q, q ≠ 0 → q ≠ 7 → q ≠ 8 → q ≠ 13 → I1 q = I q) ∧ (∀ k, k ≠ 14 → I1 0 k = I 0 k) ∧ (∀ q, ¬ (9 ≤ q ∧ q ≤ 12) → L1 q = L q) ∧ I1 0 14 = I 0 24 ∧ (∀ s, s < 5 → I1 8 s = I 14 s ∧ I1 13 s = I 15 s ∧ I1 7 s = vp_nar .boolean (I 18 s)) ∧ (∀ s, s < 5 → L1 9 s = L 16 s ∧ L1 10 s = L 16 (5 + s)) ∧ ∀ s, s < 25 → L1 11 s = L 17 s ∧ L1 12 s = L 17 (25 + s)
theorem RelX_re {n : Nat} {I I1 : II} {L L1 : LL} {E : ES} (h : RelX n I L E) (hn : n < 5) (hS : eS E ≤ 5) (h7 : ∀ j, j < 5 → I1 7 j = vp_nar .boolean (vp_nar .boolean (I 7 j))) (h8 : ∀ j, j < 5 → I1 8 j = I 8 j ∧ I1 13 j = I 13 j) (h9 : ∀ j, j < 5 → L1 9 j = L 9 j ∧ L1 10 j = L 10 j) (h11 : ∀ j, j < 25 → L1 11 j = L 11 j ∧ L1 12 j = L 12 j) : RelX n I1 L1 E := by
  refine ⟨fun j hj => by rw [h7 j (by omega), h.1 j hj, b2i_v, b2i_v], fun s hs => ?_⟩
  obtain ⟨e1, e2, e3, e4⟩ := h.2 s hs
  refine ⟨(h8 s (by omega)).1.trans e1, ?_, fun j hj => ?_, fun j hj => by rw [(h8 s (by omega)).2]; exact e4 j hj⟩
  · rw [(h9 s (by omega)).1, (h9 s (by omega)).2]; exact e2
  · rw [(h11 (5 * s + j) (by omega)).1, (h11 (5 * s + j) (by omega)).2]; exact e3 j hj
theorem RM_re {A : AS} {I Is I1 I2 : II} {L Ls L1 L2 : LL} (h : RM A I L) (hok : aok A) (hs : SAVq I L Is Ls) (hF : FM Is I1 Ls L1) (h7 : ∃ w, I1 0 7 = b2i w) (hr : RESq I1 L1 I2 L2) : RM A I2 L2 := by
  obtain ⟨mN, mF, mP, mV, mA, mS, mT, mH, m8, m7, mX, mE⟩ := h
  obtain ⟨s1, s2, s3, s4, s5, s6, s7⟩ := hs
  obtain ⟨r1, r2, r3, r4, r5, r6, r7⟩ := hr
  have z : ∀ k, k ≠ 7 → k ≠ 14 → k ≠ 21 → k ≠ 22 → k ≠ 23 → k ≠ 24 → I2 0 k = I 0 k := fun k a b c d e f => (r2 k b).trans ((hF.2.1 k a b c d e).trans (s2 k f))
  have i1 : I2 1 = I 1 := by rw [r1 1 (by decide) (by decide) (by decide) (by decide), hF.1 1 (by decide) (by decide) (by decide) (by decide), s1 1 (by decide) (by decide) (by decide) (by decide)]
  have lq : ∀ q, q ≠ 0 → q ≠ 3 → q ≠ 4 → ¬ (9 ≤ q ∧ q ≤ 12) → q ≠ 16 → q ≠ 17 → L2 q = L q := fun q a b c d e f => by rw [r3 q d, hF.2.2 q a b c d, s3 q e f]
  refine ⟨(z 0 (by decide) (by decide) (by decide) (by decide) (by decide) (by decide)).trans mN, (z 1 (by decide) (by decide) (by decide) (by decide) (by decide) (by decide)).trans mF, (z 3 (by decide) (by decide) (by decide) (by decide) (by decide) (by decide)).trans mP, by rw [i1]; exact mV, (z 35 (by decide) (by decide) (by decide) (by decide) (by decide) (by decide)).trans mA, ?_, fun q => ?_, (z 32 (by decide) (by decide) (by decide) (by decide) (by decide) (by decide)).trans mH, (z 8 (by decide) (by decide) (by decide) (by decide) (by decide) (by decide)).trans m8, ?_, ?_, fun q => ?_⟩
  · rw [r4, hF.2.1 24 (by decide) (by decide) (by decide) (by decide) (by decide), s4]; exact mS
  · obtain ⟨t1, t2, t3, t4, t5⟩ := mT q
    exact ⟨(z 36 (by decide) (by decide) (by decide) (by decide) (by decide) (by decide)).trans t1, (z 37 (by decide) (by decide) (by decide) (by decide) (by decide) (by decide)).trans t2, (z 38 (by decide) (by decide) (by decide) (by decide) (by decide) (by decide)).trans t3, (z 39 (by decide) (by decide) (by decide) (by decide) (by decide) (by decide)).trans t4, (z 40 (by decide) (by decide) (by decide) (by decide) (by decide) (by decide)).trans t5⟩
  · obtain ⟨w, hw⟩ := h7
    exact ⟨w, (r2 7 (by decide)).trans hw⟩
  · rw [lq 21 (by decide) (by decide) (by decide) (by decide) (by decide) (by decide), lq 22 (by decide) (by decide) (by decide) (by decide) (by decide) (by decide)]; exact mX
  · obtain ⟨hRX, hFi⟩ := mE q
    obtain ⟨_, _, kT1, kT5⟩ := hok.2.2.2.1 q
    refine ⟨RelX_re hRX (by have := hok.2.1; omega) kT5 (fun j hj => ?_) (fun j hj => ?_) (fun j hj => ?_) (fun j hj => ?_), ?_⟩
    · rw [(r5 j hj).2.2, hF.1 18 (by decide) (by decide) (by decide) (by decide), (s5 j hj).2.2]
    · rw [(r5 j hj).1, (r5 j hj).2.1, hF.1 14 (by decide) (by decide) (by decide) (by decide), hF.1 15 (by decide) (by decide) (by decide) (by decide)]; exact ⟨(s5 j hj).1, (s5 j hj).2.1⟩
    · rw [(r6 j hj).1, (r6 j hj).2, hF.2.2 16 (by decide) (by decide) (by decide) (by decide)]; exact s6 j hj
    · rw [(r7 j hj).1, (r7 j hj).2, hF.2.2 17 (by decide) (by decide) (by decide) (by decide)]; exact s7 j hj
    · rw [lq 5 (by decide) (by decide) (by decide) (by decide) (by decide) (by decide), lq 6 (by decide) (by decide) (by decide) (by decide) (by decide) (by decide)]; exact hFi
theorem pf_0 {n t a : Nat} {E : ES} (ht : t ≤ n) (h : (eM E (ordn n t) (ordn n t)).1 = 0) : plainF n (n + 1 - t) t a E = -10 - nI t := by
  rw [show n + 1 - t = (n - t) + 1 by omega, plainF, if_pos ((lgc_0 _).mpr h)]
theorem pf_n {n t a : Nat} {E : ES} (ht : t ≤ n) (h : ¬ (eM E (ordn n t) (ordn n t)).1 = 0) (hp : pvO n E (ordn n t) = none) : plainF n (n + 1 - t) t a E = -30 := by
  rw [show n + 1 - t = (n - t) + 1 by omega, plainF, if_neg (fun q => h ((lgc_0 _).mp q)), hp]
theorem pf_p {n t a : Nat} {E E1 : ES} (ht : t ≤ n) (h : ¬ (eM E (ordn n t) (ordn n t)).1 ≤ 0) (hp : pvO n E (ordn n t) = some E1) : plainF n (n + 1 - t) t a E = plainF n (n + 1 - (t + 1)) (t + 1) (a + 1) E1 := by
  have h1 : lg_cmp (eM E (ordn n t) (ordn n t)).1 0 = 1 := lgc_p.mpr (Int64.not_le.mp h)
  rw [show n + 1 - t = (n - t) + 1 by omega, plainF, h1, if_neg (by decide), hp, show n + 1 - (t + 1) = n - t by omega]
  simp only [if_pos (show (0 : Int32) < 1 by decide)]
theorem pf_m {n t a : Nat} {E E1 : ES} (ht : t ≤ n) (h : (eM E (ordn n t) (ordn n t)).1 ≤ 0) (h0 : ¬ (eM E (ordn n t) (ordn n t)).1 = 0) (hp : pvO n E (ordn n t) = some E1) : plainF n (n + 1 - t) t a E = plainF n (n + 1 - (t + 1)) (t + 1) (a + 0) E1 := by
  have h1 : lg_cmp (eM E (ordn n t) (ordn n t)).1 0 = -1 := lgc_m.mpr (Int64.not_le.mp (fun q => h0 (Int64.le_antisymm h q)))
  rw [show n + 1 - t = (n - t) + 1 by omega, plainF, h1, if_neg (by decide), hp, show n + 1 - (t + 1) = n - t by omega]
  simp only [if_neg (show ¬ (0 : Int32) < -1 by decide), Nat.add_zero]
theorem pf_z {t n : Nat} (ht : t ≤ n) (hn : n < 5) : ¬ (-10 - nI t : Int32) = 0 := by
  rcases (show t = 0 ∨ t = 1 ∨ t = 2 ∨ t = 3 ∨ t = 4 by omega) with e | e | e | e | e <;> subst e <;> decide
theorem pf_l {n t : Nat} {E E1 : ES} (ht : t ≤ n) (h : ∀ q, t ≤ q → q ≤ n → eL E (ordn n q) = true) (hp : pvO n E (ordn n t) = some E1) : ∀ q, t + 1 ≤ q → q ≤ n → eL E1 (ordn n q) = true := fun q q1 q2 => by
  rw [(pvO_L hp).1, va_up_ne _ _ (fun e => by have := ordn_inj q2 ht e; omega)]
  exact h q (by omega) q2
set_option maxHeartbeats 4000000 in
set_option maxRecDepth 20000 in
theorem c_X7_plain (l : Launch) (G : GT) (rg : RgT) (I : II) (L : LL) (A : AS) (x : Int32) (hms : isMS rg) (hRM : RM A I L) (hok : aok A) : CtI l yX7_plain cX7_plain 6 (some FieldType.int) 8 G rg I L [.ref (gB G + 0), .int x] (fun r I1 L1 => r = plainR A x ∧ RM A I1 L1) := by
  refine ctI_of [some (.ref (gB G + 0)), some (.int x), none, none, none, none] rfl (Nat.le_of_ble_eq_true rfl) (by decide) ?_
  intro p e s m args below meth c C hr
  obtain ⟨o0, a1, a2, a3, a4, a5, a6, a7, a8, a9, a10, a11, a12, a13, a14, a15, a16, a17, a18, a19, a20, a21, a22, a23, a24, a25, a26⟩ := id hms
  obtain ⟨mN, mF, mP, mV, mA, mS, mT, mH, m8, m7, mX, mE⟩ := id hRM
  obtain ⟨k1, k4, k12, kT, kT0, kP⟩ := id hok
  refine j_aload_n C dX7_plain_0 rfl rfl ?_
  refine j_iload_n C dX7_plain_1 rfl rfl ?_
  refine g_cvI C vc_X7_116 (c_X7_isForm l G rg _ _ (aF A) x hms mF (by omega)) ⟨Nat.le_of_ble_eq_true rfl, Nat.le_of_ble_eq_true rfl⟩ (o0) rfl rfl (Nat.le_of_ble_eq_true rfl) ⟨Nat.zero_le _, Nat.zero_le _⟩ dX7_plain_2 (fun r_2 I_2 L_2 p_2 => ?_)
  obtain ⟨rfl, rfl, rfl⟩ := p_2
  first | refine n_if_ne (tgt := 10) C dX7_plain_5 (by decide) (fun h_5 => ?_) (fun h_5 => ?_) | refine j_if_ne (tgt := 10) C dX7_plain_5 (by decide) (fun h_5 => ?_) (fun h_5 => ?_)
  · obtain ⟨hx, hxn⟩ := okF_t h_5
    obtain ⟨fm, hfe⟩ : ∃ g, g = x.toNatClampNeg := ⟨_, rfl⟩
    obtain ⟨T, hT⟩ : ∃ g, g = plainR A x := ⟨_, rfl⟩
    have hpr : plainF (aN A) (aN A + 1) 0 0 (E0 (aN A) (mxF A fm)) = T := by rw [hT]; unfold plainR; rw [h_5, hfe]; rfl
    rw [← hfe] at hx hxn
    refine j_aload_n C dX7_plain_10 rfl rfl ?_
    refine g_cvV C vc_X7_212 (c_X7_save l G rg _ _ hms) ⟨Nat.le_of_ble_eq_true rfl, Nat.le_of_ble_eq_true rfl⟩ (o0) rfl rfl (Nat.le_of_ble_eq_true rfl) ⟨Nat.zero_le _, Nat.zero_le _⟩ dX7_plain_11 (fun I_11 L_11 p_11 => ?_)
    have hsv : SAVq I L I_11 L_11 := p_11
    obtain ⟨s1, s2, s3, s4, s5, s6, s7⟩ := p_11
    refine j_aload_n C dX7_plain_14 rfl rfl ?_
    refine j_iload_n C dX7_plain_15 rfl rfl ?_
    refine t_i hx ?_
    refine g_cvV C vc_X7_215 (c_X7_matrix l G rg _ _ (aN A) fm (aV A fm) hms ((s2 0 (by decide)).trans mN) (by omega) (by omega) (fun k hk => by rw [s1 1 (by decide) (by decide) (by decide) (by decide)]; exact mV fm k (by omega) hk)) ⟨Nat.le_of_ble_eq_true rfl, Nat.le_of_ble_eq_true rfl⟩ (o0) rfl rfl (Nat.le_of_ble_eq_true rfl) ⟨Nat.zero_le _, Nat.zero_le _⟩ dX7_plain_16 (fun I_16 L_16 p_16 => ?_)
    obtain ⟨c1, c2, c3, c4⟩ := p_16
    refine j_aload_n C dX7_plain_19 rfl rfl ?_
    refine j_iconst (v := nI 0) C dX7_plain_20 (by decide) ?_
    refine g_putI C (o0) fw_X7_109 (by rfl) rfl (fits_int _) dX7_plain_21 ?_
    refine j_aload_n C dX7_plain_24 rfl rfl ?_
    refine g_cvV C vc_X7_195 (c_X7_begin l G rg _ _ hms) ⟨Nat.le_of_ble_eq_true rfl, Nat.le_of_ble_eq_true rfl⟩ (o0) rfl rfl (Nat.le_of_ble_eq_true rfl) ⟨Nat.zero_le _, Nat.zero_le _⟩ dX7_plain_25 (fun I_25 L_25 p_25 => ?_)
    obtain ⟨rfl, rfl⟩ := p_25
    refine t_IL (I1 := setW (up2 I_16 0 14 (nI 0)) false) (up2_same _ (by rw [setW_k _ _ (by decide), up2_at, if_pos rfl, if_neg (by decide), c1 0 (by decide)]; exact (s2 8 (by decide)).trans m8)) rfl ?_
    refine j_iconst (v := nI 0) C dX7_plain_28 (by decide) ?_
    refine j_istore_n C dX7_plain_29 rfl (by decide) ?_
    refine j_iconst (v := nI 0) C dX7_plain_30 (by decide) ?_
    refine j_istore_n C dX7_plain_31 rfl (by decide) ?_
    refine j_iconst (v := nI 0) C dX7_plain_32 (by decide) ?_
    refine j_istore C dX7_plain_33 (by decide) ?_
    have tl : ∀ (a o : Nat) (is : Int32) (I1 : II) (L1 : LL), FM I_11 I1 L_11 L1 → (∃ w, I1 0 7 = b2i w) → (if is = 0 then nI a else is) = T → J p l e (rmD 8) s m args below meth c (MQ below (QI G rg (fun r I1 L1 => r = plainR A x ∧ RM A I1 L1)) args s 0 0 (rg_A G rg)) 6 G rg 0 0 I1 L1 129 [some (.ref (gB G + 0)), some (.int x), some (.int (nI a)), some (.int is), some (.int (nI o)), none] [] := by
      intro a o is I1 L1 hF h7 hTT
      refine j_aload_n C dX7_plain_129 rfl rfl ?_
      refine g_cvV C vc_X7_218 (c_X7_restore l G rg _ _ hms) ⟨Nat.le_of_ble_eq_true rfl, Nat.le_of_ble_eq_true rfl⟩ (o0) rfl rfl (Nat.le_of_ble_eq_true rfl) ⟨Nat.zero_le _, Nat.zero_le _⟩ dX7_plain_130 (fun I_130 L_130 p_130 => ?_)
      refine j_iload_n C dX7_plain_133 rfl rfl ?_
      refine j_if_eq (tgt := 141) C dX7_plain_134 (by decide) (fun h_134 => ?_) (fun h_134 => ?_)
      · refine j_iload_n C dX7_plain_141 rfl rfl ?_
        exact j_iret C hr dX7_plain_142 (⟨by first | (rw [← hT, ← hTT, if_pos h_134]; done) | (rw [← hT, ← hTT, if_neg h_134]; done), RM_re hRM hok hsv hF h7 p_130⟩)
      · refine j_iload_n C dX7_plain_137 rfl rfl ?_
        refine j_goto (tgt := 142) C dX7_plain_138 (by decide) ?_
        exact j_iret C hr dX7_plain_142 (⟨by first | (rw [← hT, ← hTT, if_pos h_134]; done) | (rw [← hT, ← hTT, if_neg h_134]; done), RM_re hRM hok hsv hF h7 p_130⟩)
    have ex : ∀ (a o : Nat) (is : Int32) (I1 : II) (L1 : LL), o < 2 ^ 20 → ¬ is = 0 → FM I_11 I1 L_11 L1 → (∃ w, I1 0 7 = b2i w) → is = T → J p l e (rmD 8) s m args below meth c (MQ below (QI G rg (fun r I1 L1 => r = plainR A x ∧ RM A I1 L1)) args s 0 0 (rg_A G rg)) 6 G rg 0 0 I1 L1 35 [some (.ref (gB G + 0)), some (.int x), some (.int (nI a)), some (.int is), some (.int (nI o)), none] [] := by
      intro a o is I1 L1 ho his hF h7 hTT
      refine j_iload C dX7_plain_35 rfl ?_
      refine j_aload_n C dX7_plain_37 rfl rfl ?_
      refine g_getI C (o0) fl_X7_7 (by rfl) dX7_plain_38 ?_
      refine t_i (y := nI (aN A)) ((hF.2.1 0 (by decide) (by decide) (by decide) (by decide) (by decide)).trans ((s2 0 (by decide)).trans mN)) ?_
      first | refine n_icmp_gt (tgt := 129) C (by omega) (by omega) dX7_plain_41 (by decide) (fun h_41 => ?_) (fun h_41 => ?_) | refine j_icmp_gt (tgt := 129) C dX7_plain_41 (by decide) (fun h_41 => ?_) (fun h_41 => ?_)
      · exact tl a o is I1 L1 hF h7 (by rw [if_neg his]; exact hTT)
      · refine j_iload_n C dX7_plain_44 rfl rfl ?_
        refine j_if_ne (tgt := 129) C dX7_plain_45 (by decide) (fun h_45 => ?_) (fun h_45 => ?_)
        · exact tl a o is I1 L1 hF h7 (by rw [if_neg his]; exact hTT)
        · exact absurd h_45 (fun q => his q)
    have lp : ∀ (fuel : Nat) (o a : Nat) (E : ES) (I1 : II) (L1 : LL), aN A + 1 < fuel + o → o ≤ aN A + 1 → FM I_11 I1 L_11 L1 → I1 0 7 = b2i false → I1 0 14 = nI (eS E) → RelX (aN A) I1 L1 E → MQm (aN A) L1 (eM E) → EW (aN A) E → EI (aN A) E → (∀ q, o ≤ q → q ≤ aN A → eL E (ordn (aN A) q) = true) → plainF (aN A) (aN A + 1 - o) o a E = T → J p l e (rmD 8) s m args below meth c (MQ below (QI G rg (fun r I1 L1 => r = plainR A x ∧ RM A I1 L1)) args s 0 0 (rg_A G rg)) 6 G rg 0 0 I1 L1 35 [some (.ref (gB G + 0)), some (.int x), some (.int (nI a)), some (.int (nI 0)), some (.int (nI o)), none] [] := by
      intro fuel
      induction fuel with
      | zero => intro o a E I1 L1 h1 h2 hF h7 h14 hX hQ hEW hEI hlf hTT; exfalso; omega
      | succ fuel ih_lp =>
        intro o a E I1 L1 h1 h2 hF h7 h14 hX hQ hEW hEI hlf hTT
        refine j_iload C dX7_plain_35 rfl ?_
        refine j_aload_n C dX7_plain_37 rfl rfl ?_
        refine g_getI C (o0) fl_X7_7 (by rfl) dX7_plain_38 ?_
        refine t_i (y := nI (aN A)) ((hF.2.1 0 (by decide) (by decide) (by decide) (by decide) (by decide)).trans ((s2 0 (by decide)).trans mN)) ?_
        first | refine n_icmp_gt (tgt := 129) C (by omega) (by omega) dX7_plain_41 (by decide) (fun h_41 => ?_) (fun h_41 => ?_) | refine j_icmp_gt (tgt := 129) C dX7_plain_41 (by decide) (fun h_41 => ?_) (fun h_41 => ?_)
        · exact tl a o _ I1 L1 hF ⟨_, h7⟩ (by rw [if_pos (show nI 0 = 0 from rfl), ← hTT, show aN A + 1 - o = 0 by omega]; rfl)
        · refine j_iload_n C dX7_plain_44 rfl rfl ?_
          refine j_if_ne (tgt := 129) C dX7_plain_45 (by decide) (fun h_45 => ?_) (fun h_45 => ?_)
          · exact absurd rfl h_45
          · refine j_aload_n C dX7_plain_48 rfl rfl ?_
            refine j_iload C dX7_plain_49 rfl ?_
            refine g_cvI C vc_X7_171 (c_X7_inOrder l G rg _ _ (aN A) o hms ((hF.2.1 0 (by decide) (by decide) (by decide) (by decide) (by decide)).trans ((s2 0 (by decide)).trans mN)) (by omega) (by omega)) ⟨Nat.le_of_ble_eq_true rfl, Nat.le_of_ble_eq_true rfl⟩ (o0) rfl rfl (Nat.le_of_ble_eq_true rfl) ⟨Nat.zero_le _, Nat.zero_le _⟩ dX7_plain_51 (fun r_51 I_51 L_51 p_51 => ?_)
            obtain ⟨rfl, rfl, rfl⟩ := p_51
            have hk := ordn_le (aN A) o
            have hq : L1 3 (6 * ordn (aN A) o) = (eM E (ordn (aN A) o) (ordn (aN A) o)).1 := by rw [show 6 * ordn (aN A) o = 5 * ordn (aN A) o + ordn (aN A) o by omega]; exact congrArg Prod.fst (hQ _ _ hk hk)
            have hkl := hlf o (by omega) (by omega)
            have hs5 := EI_lt hEI hk hkl
            refine j_istore C dX7_plain_54 (by decide) ?_
            refine j_iload_n C dX7_plain_56 rfl rfl ?_
            refine j_aload_n C dX7_plain_57 rfl rfl ?_
            refine g_getR C (o0) fl_X7_20 (by rfl) dX7_plain_58 ?_
            refine j_bipush (v := nI 6) C dX7_plain_61 (by decide) ?_
            refine j_iload C dX7_plain_63 rfl ?_
            first | refine n_imul C dX7_plain_65 ?_ | refine j_imul C dX7_plain_65 ?_
            refine g_lald C (a3) (by omega) (by decide) dX7_plain_66 ?_
            refine t_l hq ?_
            refine j_lconst (v := 0) C dX7_plain_67 (by decide) ?_
            refine j_lc_le (tgt := 76) C dX7_plain_68 dX7_plain_69 (by decide) (fun h_69 => ?_) (fun h_69 => ?_)
            · refine j_iconst (v := nI 0) C dX7_plain_76 (by decide) ?_
              first | refine n_iadd C dX7_plain_77 ?_ | refine j_iadd C dX7_plain_77 ?_
              refine j_istore_n C dX7_plain_78 rfl (by decide) ?_
              refine j_aload_n C dX7_plain_79 rfl rfl ?_
              refine g_getR C (o0) fl_X7_20 (by rfl) dX7_plain_80 ?_
              refine j_bipush (v := nI 6) C dX7_plain_83 (by decide) ?_
              refine j_iload C dX7_plain_85 rfl ?_
              first | refine n_imul C dX7_plain_87 ?_ | refine j_imul C dX7_plain_87 ?_
              refine g_lald C (a3) (by omega) (by decide) dX7_plain_88 ?_
              refine t_l hq ?_
              refine j_lconst (v := 0) C dX7_plain_89 (by decide) ?_
              refine j_lc_ne (tgt := 103) C dX7_plain_90 dX7_plain_91 (by decide) (fun h_91 => ?_) (fun h_91 => ?_)
              · refine j_aload_n C dX7_plain_103 rfl rfl ?_
                refine j_iload C dX7_plain_104 rfl ?_
                refine g_cvV C vc_X7_208 (c_X7_divide l G rg _ _ (aN A) (ordn (aN A) o) E hms ((hF.2.1 0 (by decide) (by decide) (by decide) (by decide) (by decide)).trans ((s2 0 (by decide)).trans mN)) (by omega) h7 ((hF.2.1 8 (by decide) (by decide) (by decide) (by decide) (by decide)).trans ((s2 8 (by decide)).trans m8)) h14 (by omega) hX hQ hk hEW.1 h_91 hEI.1) ⟨Nat.le_of_ble_eq_true rfl, Nat.le_of_ble_eq_true rfl⟩ (o0) rfl rfl (Nat.le_of_ble_eq_true rfl) ⟨Nat.zero_le _, Nat.zero_le _⟩ dX7_plain_106 (fun I_106 L_106 p_106 => ?_)
                obtain ⟨hFd, hd14, w, hd7, hdf, hdt⟩ := p_106
                have hF2 := hF.tr hFd
                refine j_aload_n C dX7_plain_109 rfl rfl ?_
                refine g_getI C (o0) fl_X7_139 (by rfl) dX7_plain_110 ?_
                refine t_i hd7 ?_
                first | refine n_if_eq (tgt := 121) C dX7_plain_113 (by decide) (fun h_113 => ?_) (fun h_113 => ?_) | refine j_if_eq (tgt := 121) C dX7_plain_113 (by decide) (fun h_113 => ?_) (fun h_113 => ?_)
                · refine j_iconst (v := nI 0) C dX7_plain_121 (by decide) ?_
                  refine j_istore_n C dX7_plain_122 rfl (by decide) ?_
                  first | refine n_iinc (n := 1) C dX7_plain_123 rfl (by decide) ?_ | refine j_iinc C dX7_plain_123 rfl rfl (by decide) ?_
                  refine j_goto (tgt := 35) C dX7_plain_126 (by decide) ?_
                  refine j_rm 5 ?_
                  first
                  | (have g : (eM E (ordn (aN A) o) (ordn (aN A) o)).1 = 0 := h_91; exact ex _ (o + 1) _ _ _ (by omega) (pf_z (n := aN A) (by omega) (by omega)) hF ⟨_, h7⟩ (by rw [← hTT]; exact (pf_0 (by omega) h_91).symm))
                  | (have g : w = true := h_113; exact ex _ (o + 1) _ _ _ (by omega) (by decide) hF2 ⟨_, hd7⟩ (by rw [← hTT]; exact (pf_n (by omega) h_91 (hdt h_113)).symm))
                  | (obtain ⟨E1, hpv, hX1, hQ1⟩ := hdf h_113; subst h_113; first | exact ih_lp (o + 1) _ E1 _ _ (by omega) (by omega) hF2 hd7 (by rw [hd14, (pvO_L hpv).2]) hX1 hQ1 (EW_s hEW hEI hk hpv) (EI_s hEI hk hkl hpv) (pf_l (by omega) hlf hpv) (by rw [← hTT]; exact (pf_p (by omega) h_69 hpv).symm) | exact ih_lp (o + 1) _ E1 _ _ (by omega) (by omega) hF2 hd7 (by rw [hd14, (pvO_L hpv).2]) hX1 hQ1 (EW_s hEW hEI hk hpv) (EI_s hEI hk hkl hpv) (pf_l (by omega) hlf hpv) (by rw [← hTT]; exact (pf_m (by omega) h_69 h_91 hpv).symm))
                · refine j_bipush (v := (-30)) C dX7_plain_116 (by decide) ?_
                  refine j_goto (tgt := 122) C dX7_plain_118 (by decide) ?_
                  refine j_istore_n C dX7_plain_122 rfl (by decide) ?_
                  first | refine n_iinc (n := 1) C dX7_plain_123 rfl (by decide) ?_ | refine j_iinc C dX7_plain_123 rfl rfl (by decide) ?_
                  refine j_goto (tgt := 35) C dX7_plain_126 (by decide) ?_
                  refine j_rm 5 ?_
                  first
                  | (have g : (eM E (ordn (aN A) o) (ordn (aN A) o)).1 = 0 := h_91; exact ex _ (o + 1) _ _ _ (by omega) (pf_z (n := aN A) (by omega) (by omega)) hF ⟨_, h7⟩ (by rw [← hTT]; exact (pf_0 (by omega) h_91).symm))
                  | (have g : w = true := h_113; exact ex _ (o + 1) _ _ _ (by omega) (by decide) hF2 ⟨_, hd7⟩ (by rw [← hTT]; exact (pf_n (by omega) h_91 (hdt h_113)).symm))
                  | (obtain ⟨E1, hpv, hX1, hQ1⟩ := hdf h_113; subst h_113; first | exact ih_lp (o + 1) _ E1 _ _ (by omega) (by omega) hF2 hd7 (by rw [hd14, (pvO_L hpv).2]) hX1 hQ1 (EW_s hEW hEI hk hpv) (EI_s hEI hk hkl hpv) (pf_l (by omega) hlf hpv) (by rw [← hTT]; exact (pf_p (by omega) h_69 hpv).symm) | exact ih_lp (o + 1) _ E1 _ _ (by omega) (by omega) hF2 hd7 (by rw [hd14, (pvO_L hpv).2]) hX1 hQ1 (EW_s hEW hEI hk hpv) (EI_s hEI hk hkl hpv) (pf_l (by omega) hlf hpv) (by rw [← hTT]; exact (pf_m (by omega) h_69 h_91 hpv).symm))
              · refine j_bipush (v := (-10)) C dX7_plain_94 (by decide) ?_
                refine j_iload C dX7_plain_96 rfl ?_
                first | refine n_isub C (by omega) dX7_plain_98 ?_ | refine j_isub C dX7_plain_98 ?_
                refine j_istore_n C dX7_plain_99 rfl (by decide) ?_
                refine j_goto (tgt := 123) C dX7_plain_100 (by decide) ?_
                first | refine n_iinc (n := 1) C dX7_plain_123 rfl (by decide) ?_ | refine j_iinc C dX7_plain_123 rfl rfl (by decide) ?_
                refine j_goto (tgt := 35) C dX7_plain_126 (by decide) ?_
                refine j_rm 5 ?_
                first
                | (have g : (eM E (ordn (aN A) o) (ordn (aN A) o)).1 = 0 := h_91; exact ex _ (o + 1) _ _ _ (by omega) (pf_z (n := aN A) (by omega) (by omega)) hF ⟨_, h7⟩ (by rw [← hTT]; exact (pf_0 (by omega) h_91).symm))
                | (have g : w = true := h_113; exact ex _ (o + 1) _ _ _ (by omega) (by decide) hF2 ⟨_, hd7⟩ (by rw [← hTT]; exact (pf_n (by omega) h_91 (hdt h_113)).symm))
                | (obtain ⟨E1, hpv, hX1, hQ1⟩ := hdf h_113; subst h_113; first | exact ih_lp (o + 1) _ E1 _ _ (by omega) (by omega) hF2 hd7 (by rw [hd14, (pvO_L hpv).2]) hX1 hQ1 (EW_s hEW hEI hk hpv) (EI_s hEI hk hkl hpv) (pf_l (by omega) hlf hpv) (by rw [← hTT]; exact (pf_p (by omega) h_69 hpv).symm) | exact ih_lp (o + 1) _ E1 _ _ (by omega) (by omega) hF2 hd7 (by rw [hd14, (pvO_L hpv).2]) hX1 hQ1 (EW_s hEW hEI hk hpv) (EI_s hEI hk hkl hpv) (pf_l (by omega) hlf hpv) (by rw [← hTT]; exact (pf_m (by omega) h_69 h_91 hpv).symm))
            · refine j_iconst (v := nI 1) C dX7_plain_72 (by decide) ?_
              refine j_goto (tgt := 77) C dX7_plain_73 (by decide) ?_
              first | refine n_iadd C dX7_plain_77 ?_ | refine j_iadd C dX7_plain_77 ?_
              refine j_istore_n C dX7_plain_78 rfl (by decide) ?_
              refine j_aload_n C dX7_plain_79 rfl rfl ?_
              refine g_getR C (o0) fl_X7_20 (by rfl) dX7_plain_80 ?_
              refine j_bipush (v := nI 6) C dX7_plain_83 (by decide) ?_
              refine j_iload C dX7_plain_85 rfl ?_
              first | refine n_imul C dX7_plain_87 ?_ | refine j_imul C dX7_plain_87 ?_
              refine g_lald C (a3) (by omega) (by decide) dX7_plain_88 ?_
              refine t_l hq ?_
              refine j_lconst (v := 0) C dX7_plain_89 (by decide) ?_
              refine j_lc_ne (tgt := 103) C dX7_plain_90 dX7_plain_91 (by decide) (fun h_91 => ?_) (fun h_91 => ?_)
              · refine j_aload_n C dX7_plain_103 rfl rfl ?_
                refine j_iload C dX7_plain_104 rfl ?_
                refine g_cvV C vc_X7_208 (c_X7_divide l G rg _ _ (aN A) (ordn (aN A) o) E hms ((hF.2.1 0 (by decide) (by decide) (by decide) (by decide) (by decide)).trans ((s2 0 (by decide)).trans mN)) (by omega) h7 ((hF.2.1 8 (by decide) (by decide) (by decide) (by decide) (by decide)).trans ((s2 8 (by decide)).trans m8)) h14 (by omega) hX hQ hk hEW.1 h_91 hEI.1) ⟨Nat.le_of_ble_eq_true rfl, Nat.le_of_ble_eq_true rfl⟩ (o0) rfl rfl (Nat.le_of_ble_eq_true rfl) ⟨Nat.zero_le _, Nat.zero_le _⟩ dX7_plain_106 (fun I_106 L_106 p_106 => ?_)
                obtain ⟨hFd, hd14, w, hd7, hdf, hdt⟩ := p_106
                have hF2 := hF.tr hFd
                refine j_aload_n C dX7_plain_109 rfl rfl ?_
                refine g_getI C (o0) fl_X7_139 (by rfl) dX7_plain_110 ?_
                refine t_i hd7 ?_
                first | refine n_if_eq (tgt := 121) C dX7_plain_113 (by decide) (fun h_113 => ?_) (fun h_113 => ?_) | refine j_if_eq (tgt := 121) C dX7_plain_113 (by decide) (fun h_113 => ?_) (fun h_113 => ?_)
                · refine j_iconst (v := nI 0) C dX7_plain_121 (by decide) ?_
                  refine j_istore_n C dX7_plain_122 rfl (by decide) ?_
                  first | refine n_iinc (n := 1) C dX7_plain_123 rfl (by decide) ?_ | refine j_iinc C dX7_plain_123 rfl rfl (by decide) ?_
                  refine j_goto (tgt := 35) C dX7_plain_126 (by decide) ?_
                  refine j_rm 5 ?_
                  first
                  | (have g : (eM E (ordn (aN A) o) (ordn (aN A) o)).1 = 0 := h_91; exact ex _ (o + 1) _ _ _ (by omega) (pf_z (n := aN A) (by omega) (by omega)) hF ⟨_, h7⟩ (by rw [← hTT]; exact (pf_0 (by omega) h_91).symm))
                  | (have g : w = true := h_113; exact ex _ (o + 1) _ _ _ (by omega) (by decide) hF2 ⟨_, hd7⟩ (by rw [← hTT]; exact (pf_n (by omega) h_91 (hdt h_113)).symm))
                  | (obtain ⟨E1, hpv, hX1, hQ1⟩ := hdf h_113; subst h_113; first | exact ih_lp (o + 1) _ E1 _ _ (by omega) (by omega) hF2 hd7 (by rw [hd14, (pvO_L hpv).2]) hX1 hQ1 (EW_s hEW hEI hk hpv) (EI_s hEI hk hkl hpv) (pf_l (by omega) hlf hpv) (by rw [← hTT]; exact (pf_p (by omega) h_69 hpv).symm) | exact ih_lp (o + 1) _ E1 _ _ (by omega) (by omega) hF2 hd7 (by rw [hd14, (pvO_L hpv).2]) hX1 hQ1 (EW_s hEW hEI hk hpv) (EI_s hEI hk hkl hpv) (pf_l (by omega) hlf hpv) (by rw [← hTT]; exact (pf_m (by omega) h_69 h_91 hpv).symm))
                · refine j_bipush (v := (-30)) C dX7_plain_116 (by decide) ?_
                  refine j_goto (tgt := 122) C dX7_plain_118 (by decide) ?_
                  refine j_istore_n C dX7_plain_122 rfl (by decide) ?_
                  first | refine n_iinc (n := 1) C dX7_plain_123 rfl (by decide) ?_ | refine j_iinc C dX7_plain_123 rfl rfl (by decide) ?_
                  refine j_goto (tgt := 35) C dX7_plain_126 (by decide) ?_
                  refine j_rm 5 ?_
                  first
                  | (have g : (eM E (ordn (aN A) o) (ordn (aN A) o)).1 = 0 := h_91; exact ex _ (o + 1) _ _ _ (by omega) (pf_z (n := aN A) (by omega) (by omega)) hF ⟨_, h7⟩ (by rw [← hTT]; exact (pf_0 (by omega) h_91).symm))
                  | (have g : w = true := h_113; exact ex _ (o + 1) _ _ _ (by omega) (by decide) hF2 ⟨_, hd7⟩ (by rw [← hTT]; exact (pf_n (by omega) h_91 (hdt h_113)).symm))
                  | (obtain ⟨E1, hpv, hX1, hQ1⟩ := hdf h_113; subst h_113; first | exact ih_lp (o + 1) _ E1 _ _ (by omega) (by omega) hF2 hd7 (by rw [hd14, (pvO_L hpv).2]) hX1 hQ1 (EW_s hEW hEI hk hpv) (EI_s hEI hk hkl hpv) (pf_l (by omega) hlf hpv) (by rw [← hTT]; exact (pf_p (by omega) h_69 hpv).symm) | exact ih_lp (o + 1) _ E1 _ _ (by omega) (by omega) hF2 hd7 (by rw [hd14, (pvO_L hpv).2]) hX1 hQ1 (EW_s hEW hEI hk hpv) (EI_s hEI hk hkl hpv) (pf_l (by omega) hlf hpv) (by rw [← hTT]; exact (pf_m (by omega) h_69 h_91 hpv).symm))
              · refine j_bipush (v := (-10)) C dX7_plain_94 (by decide) ?_
                refine j_iload C dX7_plain_96 rfl ?_
                first | refine n_isub C (by omega) dX7_plain_98 ?_ | refine j_isub C dX7_plain_98 ?_
                refine j_istore_n C dX7_plain_99 rfl (by decide) ?_
                refine j_goto (tgt := 123) C dX7_plain_100 (by decide) ?_
                first | refine n_iinc (n := 1) C dX7_plain_123 rfl (by decide) ?_ | refine j_iinc C dX7_plain_123 rfl rfl (by decide) ?_
                refine j_goto (tgt := 35) C dX7_plain_126 (by decide) ?_
                refine j_rm 5 ?_
                first
                | (have g : (eM E (ordn (aN A) o) (ordn (aN A) o)).1 = 0 := h_91; exact ex _ (o + 1) _ _ _ (by omega) (pf_z (n := aN A) (by omega) (by omega)) hF ⟨_, h7⟩ (by rw [← hTT]; exact (pf_0 (by omega) h_91).symm))
                | (have g : w = true := h_113; exact ex _ (o + 1) _ _ _ (by omega) (by decide) hF2 ⟨_, hd7⟩ (by rw [← hTT]; exact (pf_n (by omega) h_91 (hdt h_113)).symm))
                | (obtain ⟨E1, hpv, hX1, hQ1⟩ := hdf h_113; subst h_113; first | exact ih_lp (o + 1) _ E1 _ _ (by omega) (by omega) hF2 hd7 (by rw [hd14, (pvO_L hpv).2]) hX1 hQ1 (EW_s hEW hEI hk hpv) (EI_s hEI hk hkl hpv) (pf_l (by omega) hlf hpv) (by rw [← hTT]; exact (pf_p (by omega) h_69 hpv).symm) | exact ih_lp (o + 1) _ E1 _ _ (by omega) (by omega) hF2 hd7 (by rw [hd14, (pvO_L hpv).2]) hX1 hQ1 (EW_s hEW hEI hk hpv) (EI_s hEI hk hkl hpv) (pf_l (by omega) hlf hpv) (by rw [← hTT]; exact (pf_m (by omega) h_69 h_91 hpv).symm))
    exact lp (aN A + 2) 0 0 (E0 (aN A) (mxF A fm)) (setW (up2 I_16 0 14 (nI 0)) false) L_16 (by omega) (by omega) ⟨fun q a b c d => by rw [setW_q _ _ a, up2_ne _ a]; exact c1 q b, fun k a b c d e => by rw [setW_k _ _ a, up2_at, if_pos rfl, if_neg b, c1 0 (by decide)], fun q a b c d => c2 q b c⟩ (setW_7 _ _) (by rw [setW_k _ _ (by decide), up2_at]; simp; rfl) (RelX_0 (fun j hj => by rw [setW_q _ _ (by decide), up2_ne _ (by decide)]; exact c3 j hj)) c4 (EW_0 (fun i j _ _ => hv_WF _ i j)) (EI_0 (aN A) (mxF A fm)) (fun q _ hq => decide_eq_true (ordn_le _ _)) hpr
  · refine j_iconst (v := (-1)) C dX7_plain_8 (by decide) ?_
    exact j_iret C hr dX7_plain_9 (by unfold plainR; rw [h_5]; exact ⟨rfl, hRM⟩)
