/-! ===== pivots over the class's cells ===== -/
theorem nI_m1 {k : Nat} (h : k < 2 ^ 31) : ¬ nI k = -1 := fun q => by
  have h1 := congrArg Int32.toInt q
  rw [nI_toInt h, show (-1 : Int32).toInt = -1 from by decide] at h1
  omega
theorem RelC_mid {n o k : Nat} {I I2 : II} {L L1 : LL} {E : ES} (hR : RelC n o I L E) (hn : n < 5) (hk : k ≤ n) (hS : eS E < 5) (h6 : I2 o 6 = nI n) (h7 : I2 o 7 = nI (eS E + 1)) (hl : ∀ j, j < 5 → I2 (o + 29) j = b2i (va_up (eL E) k false j)) (hp : I2 (o + 39 + 8 * eS E) 2 = nI k) (hpo : ∀ s, s < eS E → I2 (o + 39 + 8 * s) 2 = I (o + 39 + 8 * s) 2) (hF : Fm (o + 39 + 8 * eS E + 1) (o + 39 + 8 * eS E + 8) L L1) (hw : fr L1 (o + 39 + 8 * eS E + 1) = eM E k k) (hr : ∀ j, j < 5 → fr L1 (o + 39 + 8 * eS E + 3 + j) = rwF E k j) : RelC n o I2 L1 (midE E k) := by
  obtain ⟨a1, a2, a3, a4, a5, a6⟩ := hR
  refine ⟨h6, h7, show eS E + 1 ≤ 5 by omega, fun i j hi hj => ?_, hl, fun s hs => ?_⟩
  · rw [hF.fr (by omega)]; exact a4 i j hi hj
  · have hs' : s < eS E + 1 := hs
    by_cases e : s = eS E
    · subst e
      refine ⟨?_, ?_, ?_, fun j hj => ?_⟩
      · rw [hp]; show nI k = nI (va_up (eP E) (eS E) k (eS E)); rw [va_up_self]
      · show va_up (eP E) (eS E) k (eS E) ≤ n; rw [va_up_self]; exact hk
      · show _ = va_up (eW E) (eS E) (eM E k k) (eS E); rw [va_up_self, show o + 40 + 8 * eS E = o + 39 + 8 * eS E + 1 by omega]; exact hw
      · show _ = va_up (eN E) (eS E) (rwF E k) (eS E) j; rw [va_up_self, show o + 42 + 8 * eS E + j = o + 39 + 8 * eS E + 3 + j by omega]; exact hr j hj
    · obtain ⟨b1, b2, b3, b4⟩ := a6 s (by omega)
      refine ⟨?_, ?_, ?_, fun j hj => ?_⟩
      · rw [hpo s (by omega), b1]; show nI (eP E s) = nI (va_up (eP E) (eS E) k s); rw [va_up_ne _ _ e]
      · show va_up (eP E) (eS E) k s ≤ n; rw [va_up_ne _ _ e]; exact b2
      · show _ = va_up (eW E) (eS E) (eM E k k) s; rw [va_up_ne _ _ e, hF.fr (by omega)]; exact b3
      · show _ = va_up (eN E) (eS E) (rwF E k) s j; rw [va_up_ne _ _ e, hF.fr (by omega)]; exact b4 j hj
theorem rwO_f {E : ES} {k j : Nat} (h : va_up (eL E) k false j = false) : rwO E k j = some (sqI k j) := by
  unfold rwO
  rw [if_neg]
  · rfl
  · intro q
    rw [va_up_ne _ _ q.2] at h
    rw [h] at q
    cases q.1
theorem rwO_t {E : ES} {k j : Nat} (h : va_up (eL E) k false j = true) : rwO E k j = fDiv (eM E k j) (eM E k k) := by
  unfold rwO
  rw [if_pos]
  by_cases e : j = k
  · subst e; rw [va_up_self] at h; cases h
  · rw [va_up_ne _ _ e] at h; exact ⟨h, e⟩
theorem rwF_of {E : ES} {k j : Nat} {z : Fr} (h : rwO E k j = some z) : rwF E k j = z := by unfold rwF; rw [h]; rfl
theorem ordn_posn {n i : Nat} (h : i ≤ n) : ordn n (posn n i) = i := by
  unfold ordn posn
  split <;> split at * <;> omega
theorem nwO_comm {n : Nat} {E : ES} {k i j : Nat} (hi : i ≤ n) (hj : j ≤ n) : nwO n E k i j = nwO n E k j i := by
  unfold nwO
  by_cases h1 : posn n i ≤ posn n j
  · by_cases h2 : posn n j ≤ posn n i
    · have : i = j := by
        rw [← ordn_posn hi, ← ordn_posn hj, Nat.le_antisymm h1 h2]
      rw [this]
    · rw [if_pos h1, if_neg h2]
  · rw [if_neg h1, if_pos (by omega)]
theorem nwO_ord {n : Nat} {E : ES} {k t w : Nat} (h : t ≤ w) (hw : w ≤ n) : nwO n E k (ordn n t) (ordn n w) = cpO E k (ordn n t) (ordn n w) := by
  unfold nwO
  rw [posn_ordn (by omega), posn_ordn hw, if_pos h]
theorem posn_le {n i : Nat} (h : i ≤ n) : posn n i ≤ n := by unfold posn; split <;> omega
/-- the matrix, lessened up to the places t w of THE ORDER -/
def NLs (n k : Nat) (E : ES) (o : Nat) (L : LL) (t w : Nat) : Prop := ∀ a b, a ≤ n → b ≤ n → (eL E a = true → eL E b = true → prc t w (posn n a) (posn n b) → nwO n E k a b = some (fr L (o + 3 + (a * 5 + b)))) ∧ (¬ (eL E a = true ∧ eL E b = true ∧ prc t w (posn n a) (posn n b)) → fr L (o + 3 + (a * 5 + b)) = eM E a b)
theorem NLs_0 {n k : Nat} {E : ES} {o : Nat} {L : LL} (h : ∀ i j, i ≤ n → j ≤ n → fr L (o + 3 + (i * 5 + j)) = eM E i j) : NLs n k E o L 0 0 := fun a b ha hb => ⟨fun _ _ q => by unfold prc at q; omega, fun _ => h a b ha hb⟩
theorem NLs_n {n k : Nat} {E : ES} {o : Nat} {L : LL} {t w : Nat} (h : NLs n k E o L t w) (hw : n < w) : NLs n k E o L (t + 1) (t + 1) := fun a b ha hb => by
  have h1 := posn_le ha; have h2 := posn_le hb
  exact ⟨fun q1 q2 q => (h a b ha hb).1 q1 q2 (by unfold prc at q ⊢; omega), fun q => (h a b ha hb).2 (fun z => q ⟨z.1, z.2.1, by have := z.2.2; unfold prc at this ⊢; omega⟩)⟩
theorem NLs_skip {n k : Nat} {E : ES} {o : Nat} {L : LL} {t w : Nat} (h : NLs n k E o L t w) (htw : t ≤ w) (hw : w ≤ n) (hl : ¬ (eL E (ordn n t) = true ∧ eL E (ordn n w) = true)) : NLs n k E o L t (w + 1) := fun a b ha hb => by
  have key : eL E a = true → eL E b = true → prc t (w + 1) (posn n a) (posn n b) → prc t w (posn n a) (posn n b) := by
    intro q1 q2 q
    by_cases e : (posn n a = t ∧ posn n b = w) ∨ (posn n a = w ∧ posn n b = t)
    · exfalso
      apply hl
      rcases e with ⟨e1, e2⟩ | ⟨e1, e2⟩
      · rw [← e1, ← e2, ordn_posn ha, ordn_posn hb]; exact ⟨q1, q2⟩
      · rw [← e1, ← e2, ordn_posn ha, ordn_posn hb]; exact ⟨q2, q1⟩
    · unfold prc at q ⊢
      omega
  refine ⟨fun q1 q2 q => (h a b ha hb).1 q1 q2 (key q1 q2 q), fun q => (h a b ha hb).2 (fun z => q ⟨z.1, z.2.1, by have := z.2.2; unfold prc at this ⊢; omega⟩)⟩
theorem NLs_s {n k : Nat} {E : ES} {o : Nat} {L L4 : LL} {t w : Nat} {z : Fr} (h : NLs n k E o L t w) (hn : n < 5) (htw : t ≤ w) (hw : w ≤ n) (hz : cpO E k (ordn n t) (ordn n w) = some z) (h1 : fr L4 (o + 3 + (ordn n t * 5 + ordn n w)) = z) (h2 : fr L4 (o + 3 + (ordn n w * 5 + ordn n t)) = z) (h3 : ∀ q, q < 25 → q ≠ ordn n t * 5 + ordn n w → q ≠ ordn n w * 5 + ordn n t → fr L4 (o + 3 + q) = fr L (o + 3 + q)) (hl1 : eL E (ordn n t) = true) (hl2 : eL E (ordn n w) = true) : NLs n k E o L4 t (w + 1) := by
  intro a b ha hb
  have o1 := ordn_le n t; have o2 := ordn_le n w
  have hq := nwO_ord (E := E) (k := k) htw hw
  by_cases e1 : a = ordn n t ∧ b = ordn n w
  · obtain ⟨rfl, rfl⟩ := e1
    refine ⟨fun _ _ _ => by rw [h1, hq]; exact hz, fun q => absurd ⟨hl1, hl2, ?_⟩ q⟩
    rw [posn_ordn (by omega), posn_ordn hw]
    unfold prc; omega
  · by_cases e2 : a = ordn n w ∧ b = ordn n t
    · obtain ⟨rfl, rfl⟩ := e2
      refine ⟨fun _ _ _ => by rw [h2, nwO_comm ha hb, hq]; exact hz, fun q => absurd ⟨hl2, hl1, ?_⟩ q⟩
      rw [posn_ordn (by omega), posn_ordn (show t ≤ n by omega)]
      unfold prc; omega
    · have e1' : ¬ (posn n a = t ∧ posn n b = w) := fun q => e1 ⟨by rw [← q.1, ordn_posn ha], by rw [← q.2, ordn_posn hb]⟩
      have e2' : ¬ (posn n a = w ∧ posn n b = t) := fun q => e2 ⟨by rw [← q.1, ordn_posn ha], by rw [← q.2, ordn_posn hb]⟩
      rw [h3 (a * 5 + b) (by omega) (by omega) (by omega)]
      refine ⟨fun q1 q2 q => (h a b ha hb).1 q1 q2 (by unfold prc at q ⊢; omega), fun q => (h a b ha hb).2 (fun z => q ⟨z.1, z.2.1, by have := z.2.2; unfold prc at this ⊢; omega⟩)⟩
theorem RelC_ls {n o k : Nat} {I : II} {L L1 : LL} {E : ES} (hR : RelC n o I L E) (hn : n < 5) (hF : Fm (o + 3) (o + 38) L L1) (hT : NLs n k E o L1 (n + 1) (n + 1)) : lsOk n E k ∧ RelC n o I L1 (lsE n E k) := by
  obtain ⟨a1, a2, a3, a4, a5, a6⟩ := hR
  have key : ∀ i j, i ≤ n → j ≤ n → eL E i = true → eL E j = true → nwO n E k i j = some (fr L1 (o + 3 + (i * 5 + j))) := fun i j hi hj h1 h2 => (hT i j hi hj).1 h1 h2 (by have := posn_le hi; have := posn_le hj; unfold prc; omega)
  refine ⟨(fun i j hi hj h1 h2 q => by rw [key i j hi hj h1 h2] at q; cases q), a1, a2, a3, fun i j hi hj => ?_, a5, fun s hs => ?_⟩
  · show _ = if eL E i = true ∧ eL E j = true then (nwO n E k i j).getD (0, 1) else eM E i j
    by_cases h : eL E i = true ∧ eL E j = true
    · rw [if_pos h, key i j hi hj h.1 h.2]; rfl
    · rw [if_neg h]; exact (hT i j hi hj).2 (fun q => h ⟨q.1, q.2.1⟩)
  · have hs' : s < eS E := hs
    obtain ⟨b1, b2, b3, b4⟩ := a6 s hs
    exact ⟨b1, b2, (hF.fr (by omega)).trans b3, fun j hj => (hF.fr (by omega)).trans (b4 j hj)⟩
/-- what an elimination keeps -/
def EI (n : Nat) (E : ES) : Prop := (∀ j, n < j → eL E j = false) ∧ eS E + cntL (eL E) (n + 1) = n + 1
def E0 (n : Nat) (M : Nat → Nat → Fr) : ES := (M, fun j => decide (j ≤ n), 0, fun _ => 0, fun _ => (0, 1), fun _ _ => (0, 1), fun _ _ => false)
theorem EI_0 (n : Nat) (M : Nat → Nat → Fr) : EI n (E0 n M) := ⟨fun j hj => decide_eq_false (by omega), by
  show 0 + cntL (fun j => decide (j ≤ n)) (n + 1) = n + 1
  rw [cntL_all (fun i hi => decide_eq_true (by omega)), Nat.zero_add]⟩
theorem EI_s {n k : Nat} {E E' : ES} (h : EI n E) (hk : k ≤ n) (hl : eL E k = true) (h2 : pvO n E k = some E') : EI n E' := by
  obtain ⟨e1, e2⟩ := pvO_L h2
  refine ⟨fun j hj => by rw [e1, va_up_ne _ _ (by omega)]; exact h.1 j hj, ?_⟩
  rw [e1, e2]
  have := cntL_up (eL E) hl (show k < n + 1 by omega)
  have := h.2
  omega
theorem EI_lt {n k : Nat} {E : ES} (h : EI n E) (hk : k ≤ n) (hl : eL E k = true) : eS E ≤ n := by
  have := cntL_up (eL E) hl (show k < n + 1 by omega)
  have := h.2
  omega
theorem isSg_L {sg : Int32} {E : ES} {k : Nat} (h : isSg sg E k = true) : eL E k = true ∧ lg_cmp (eM E k k).1 0 = sg := by
  unfold isSg at h
  rw [Bool.and_eq_true, decide_eq_true_eq] at h
  exact h
theorem pvO_some {n k : Nat} {E : ES} (h1 : rwOk n E k) (h2 : lsOk n (midE E k) k) : pvO n E k = some (lsE n (midE E k) k) := cif_t ⟨h1, h2⟩
theorem pvO_none1 {n k : Nat} {E : ES} (h1 : ¬ rwOk n E k) : pvO n E k = none := cif_f (fun q => h1 q.1)
theorem pvO_none2 {n k : Nat} {E : ES} (h1 : ¬ lsOk n (midE E k) k) : pvO n E k = none := cif_f (fun q => h1 q.2)
/-- plain elimination -/
noncomputable def plainF (n : Nat) : Nat → Nat → Nat → ES → Int32
  | 0, _, a, _ => nI a
  | f + 1, t, a, E => if lg_cmp (eM E (ordn n t) (ordn n t)).1 0 = 0 then -10 - nI t else match pvO n E (ordn n t) with
    | none => -30
    | some E' => plainF n f (t + 1) (if 0 < lg_cmp (eM E (ordn n t) (ordn n t)).1 0 then a + 1 else a) E'

set_option maxHeartbeats 4000000 in
set_option maxRecDepth 20000 in
theorem c_X0_makeSquare (l : Launch) (G : GT) (rg : RgT) (I : II) (L : LL) (o n k : Nat) (E : ES) (ho : isEl rg o) (hn : n < 5) (hk : k ≤ n) (hR : RelC n o I L E) (hS4 : eS E < 5) (hLn : ∀ j, n < j → eL E j = false) (hsg : ¬ lg_cmp (eM E k k).1 0 = 0) : CtI l yX0_makeSquare cX0_makeSquare 4 (some FieldType.boolean) 4 G rg I L [.ref (gB G + o), .int (nI k)] (fun r I1 L1 => Fm o (o + 79) I I1 ∧ Fm o (o + 79) L L1 ∧ ((r = b2i true ∧ rwOk n E k ∧ RelC n o I1 L1 (midE E k)) ∨ (r = b2i false ∧ ¬ rwOk n E k))) := by
  refine ctI_of [some (.ref (gB G + o)), some (.int (nI k)), none, none] rfl (Nat.le_of_ble_eq_true rfl) (by decide) ?_
  intro p e s m args below meth c C hr
  obtain ⟨ho1, ho2, ho3, ho4, ho5, ho6, ho7, ho8, ho9⟩ := id ho
  obtain ⟨hN, hS, hS5, hM, hLf, hSq⟩ := id hR
  have hsq := ho9 (eS E) (by omega)
  have hat : isF rg (o + 1 + 2 + (k * 5 + k)) := ho2.2.2 _ (by omega)
  refine j_aload_n C dX0_makeSquare_0 rfl rfl ?_
  refine g_getI C (by assumption) fl_X0_50 (by rfl) dX0_makeSquare_1 ?_
  refine t_i hS ?_
  refine j_iconst (v := nI 5) C dX0_makeSquare_4 (by decide) ?_
  first | refine n_icmp_ge (tgt := 23) C (by omega) (by omega) dX0_makeSquare_5 (by decide) (fun h_5 => ?_) (fun h_5 => ?_) | refine j_icmp_ge (tgt := 23) C dX0_makeSquare_5 (by decide) (fun h_5 => ?_) (fun h_5 => ?_)
  · exact absurd h_5 (by omega)
  · refine j_aload_n C dX0_makeSquare_8 rfl rfl ?_
    refine g_getR C (by assumption) fl_X0_12 (by rfl) dX0_makeSquare_9 ?_
    refine j_iload_n C dX0_makeSquare_12 rfl rfl ?_
    refine j_iload_n C dX0_makeSquare_13 rfl rfl ?_
    refine g_cvR C vc_X0_91 (c_X3_at l G rg _ _ _ _ _ ho2 (by omega) (by omega)) ⟨Nat.le_of_ble_eq_true rfl, Nat.le_of_ble_eq_true rfl⟩ (ho2.1) rfl rfl (Nat.le_of_ble_eq_true rfl) ⟨Nat.zero_le _, Nat.zero_le _⟩ dX0_makeSquare_14 (fun r_14 I_14 L_14 p_14 => ?_)
    obtain ⟨rfl, rfl, rfl⟩ := p_14
    refine g_cvI C vc_X0_95 (c_X2_sign l G rg _ _ _ hat) ⟨Nat.le_of_ble_eq_true rfl, Nat.le_of_ble_eq_true rfl⟩ (hat) rfl rfl (Nat.le_of_ble_eq_true rfl) ⟨Nat.zero_le _, Nat.zero_le _⟩ dX0_makeSquare_17 (fun r_17 I_17 L_17 p_17 => ?_)
    obtain ⟨rfl, rfl, rfl⟩ := p_17
    rw [show L (o + 1 + 2 + (k * 5 + k)) 0 = (eM E k k).1 from congrArg Prod.fst (hM k k (by omega) (by omega))]
    refine j_if_ne (tgt := 25) C dX0_makeSquare_20 (by decide) (fun h_20 => ?_) (fun h_20 => ?_)
    · refine j_aload_n C dX0_makeSquare_25 rfl rfl ?_
      refine g_getR C (by assumption) fl_X0_24 (by rfl) dX0_makeSquare_26 ?_
      refine j_aload_n C dX0_makeSquare_29 rfl rfl ?_
      refine g_getI C (by assumption) fl_X0_50 (by rfl) dX0_makeSquare_30 ?_
      refine t_i hS ?_
      refine g_aald4 C (ho4) (by omega) (by decide) (by rfl) (by omega) dX0_makeSquare_33 ?_
      refine j_astore_n C dX0_makeSquare_34 rfl (by decide) ?_
      refine j_aload_n C dX0_makeSquare_35 rfl rfl ?_
      refine j_iload_n C dX0_makeSquare_36 rfl rfl ?_
      refine j_aload_n C dX0_makeSquare_37 rfl rfl ?_
      refine g_getR C (by assumption) fl_X0_12 (by rfl) dX0_makeSquare_38 ?_
      refine j_iload_n C dX0_makeSquare_41 rfl rfl ?_
      refine j_iload_n C dX0_makeSquare_42 rfl rfl ?_
      refine g_cvR C vc_X0_91 (c_X3_at l G rg _ _ _ _ _ ho2 (by omega) (by omega)) ⟨Nat.le_of_ble_eq_true rfl, Nat.le_of_ble_eq_true rfl⟩ (ho2.1) rfl rfl (Nat.le_of_ble_eq_true rfl) ⟨Nat.zero_le _, Nat.zero_le _⟩ dX0_makeSquare_43 (fun r_43 I_43 L_43 p_43 => ?_)
      obtain ⟨rfl, rfl, rfl⟩ := p_43
      refine g_cvV C vc_X0_111 (c_X5_start l G rg _ _ (o + 39 + 8 * eS E) k _ hsq hat (by omega) (by omega)) ⟨Nat.le_of_ble_eq_true rfl, Nat.le_of_ble_eq_true rfl⟩ (hsq.1) rfl rfl (Nat.le_of_ble_eq_true rfl) ⟨Nat.zero_le _, Nat.zero_le _⟩ dX0_makeSquare_46 (fun I_46 L_46 p_46 => ?_)
      obtain ⟨rfl, hF1, hA1, hC1⟩ := p_46
      refine j_aload_n C dX0_makeSquare_49 rfl rfl ?_
      refine j_dup C dX0_makeSquare_50 rfl ?_
      refine g_getI C (by assumption) fl_X0_50 (by rfl) dX0_makeSquare_51 ?_
      refine t_i (y := nI (eS E)) (by rw [up2_ne _ (by omega)]; exact hS) ?_
      refine j_iconst (v := nI 1) C dX0_makeSquare_54 (by decide) ?_
      first | refine n_iadd C dX0_makeSquare_55 ?_ | refine j_iadd C dX0_makeSquare_55 ?_
      refine g_putI C (by assumption) fw_X0_50 (by rfl) rfl (fits_int _) dX0_makeSquare_56 ?_
      refine j_aload_n C dX0_makeSquare_59 rfl rfl ?_
      refine g_getR C (by assumption) fl_X0_18 (by rfl) dX0_makeSquare_60 ?_
      refine j_iload_n C dX0_makeSquare_63 rfl rfl ?_
      refine j_iconst (v := nI 0) C dX0_makeSquare_64 (by decide) ?_
      refine g_zast C (ho3) (by omega) (by decide) rfl dX0_makeSquare_65 ?_
      refine j_iconst (v := nI 0) C dX0_makeSquare_66 (by decide) ?_
      refine j_istore_n C dX0_makeSquare_67 rfl (by decide) ?_
      obtain ⟨I2, hI2⟩ : ∃ I2, I2 = (up2 (up2 (up2 I (o + 39 + 8 * eS E) 2 (nI k)) o 7 (nI (eS E + 1))) (o + 29) k (nI 0)) := ⟨_, rfl⟩
      rw [← hI2]
      have hFI : Fm o (o + 79) I I2 := by rw [hI2]; exact up2_I (up2_I (up2_I Fm.rf (by omega) (by omega)) (by omega) (by omega)) (by omega) (by omega)
      have hN2 : I2 o 6 = nI n := by rw [hI2, up2_ne _ (by omega), up2_at, if_pos rfl, if_neg (by decide), up2_ne _ (by omega)]; exact hN
      have hS2 : I2 o 7 = nI (eS E + 1) := by rw [hI2, up2_ne _ (by omega), up2_at, if_pos rfl, if_pos rfl]
      have hL2 : ∀ i, i < 5 → I2 (o + 29) i = b2i (va_up (eL E) k false i) := fun i hi => by rw [hI2, up2_at, if_pos rfl, up2_ne _ (by omega), up2_ne _ (by omega)]; unfold va_up; split <;> first | rfl | exact hLf i hi
      have hp2 : I2 (o + 39 + 8 * eS E) 2 = nI k := by rw [hI2, up2_ne _ (by omega), up2_ne _ (by omega), up2_at, if_pos rfl, if_pos rfl]
      have hpo2 : ∀ q, q < eS E → I2 (o + 39 + 8 * q) 2 = I (o + 39 + 8 * q) 2 := fun q hq => by rw [hI2, up2_ne _ (by omega), up2_ne _ (by omega), up2_ne _ (by omega)]
      have lp : ∀ (fuel : Nat) (j : Nat) (L1 : LL), n + 1 < fuel + j → j ≤ n + 1 → Fm ((o + 39 + 8 * eS E) + 1) ((o + 39 + 8 * eS E) + 8) L L1 → fr L1 ((o + 39 + 8 * eS E) + 1) = eM E k k → (∀ i, i < j → rwO E k i = some (fr L1 ((o + 39 + 8 * eS E) + 3 + i))) → (∀ i, j ≤ i → i < 5 → fr L1 ((o + 39 + 8 * eS E) + 3 + i) = sqI k i) → J p l e (rmD 4) s m args below meth c (MQ below (QI G rg (fun r I1 L1 => Fm o (o + 79) I I1 ∧ Fm o (o + 79) L L1 ∧ ((r = b2i true ∧ rwOk n E k ∧ RelC n o I1 L1 (midE E k)) ∨ (r = b2i false ∧ ¬ rwOk n E k)))) args s 0 0 (rg_A G rg)) 4 G rg 0 0 I2 L1 68 [some (.ref (gB G + o)), some (.int (nI k)), some (.ref (gB G + (o + 39 + 8 * eS E))), some (.int (nI j))] [] := by
        intro fuel
        induction fuel with
        | zero => intro j L1 h1 h2 hG1 hw1 hP1 hU1; exfalso; omega
        | succ fuel ih_lp =>
          intro j L1 h1 h2 hG1 hw1 hP1 hU1
          refine j_iload_n C dX0_makeSquare_68 rfl rfl ?_
          refine j_aload_n C dX0_makeSquare_69 rfl rfl ?_
          refine g_getI C (by assumption) fl_X0_46 (by rfl) dX0_makeSquare_70 ?_
          refine t_i hN2 ?_
          first | refine n_icmp_gt (tgt := 123) C (by omega) (by omega) dX0_makeSquare_73 (by decide) (fun h_73 => ?_) (fun h_73 => ?_) | refine j_icmp_gt (tgt := 123) C dX0_makeSquare_73 (by decide) (fun h_73 => ?_) (fun h_73 => ?_)
          · refine j_iconst (v := nI 1) C dX0_makeSquare_123 (by decide) ?_
            refine j_zret C hr (by rfl) dX0_makeSquare_124 ⟨hFI, hG1.mono (by omega) (by omega), Or.inl ⟨rfl, (fun i hi q => by rw [hP1 i (by omega)] at q; cases q), RelC_mid hR hn hk hS4 hN2 hS2 hL2 hp2 hpo2 hG1 hw1 (fun i hi => ?_)⟩⟩
            by_cases hi2 : i < j
            · exact (rwF_of (hP1 i hi2)).symm
            · rw [hU1 i (by omega) hi, rwF_of (rwO_f (by by_cases e : i = k; exact absurd e (by omega); rw [va_up_ne _ _ e]; exact hLn i (by omega)))]
          · refine j_aload_n C dX0_makeSquare_76 rfl rfl ?_
            refine g_getR C (by assumption) fl_X0_18 (by rfl) dX0_makeSquare_77 ?_
            refine j_iload_n C dX0_makeSquare_80 rfl rfl ?_
            refine g_zald C (ho3) (by omega) (by decide) dX0_makeSquare_81 ?_
            refine t_i (hL2 j (by omega)) ?_
            first | refine n_if_eq (tgt := 117) C dX0_makeSquare_82 (by decide) (fun h_82 => ?_) (fun h_82 => ?_) | refine j_if_eq (tgt := 117) C dX0_makeSquare_82 (by decide) (fun h_82 => ?_) (fun h_82 => ?_)
            · first | refine n_iinc (n := 1) C dX0_makeSquare_117 rfl (by decide) ?_ | refine j_iinc C dX0_makeSquare_117 rfl rfl (by decide) ?_
              refine j_goto (tgt := 68) C dX0_makeSquare_120 (by decide) ?_
              first
              | exact ih_lp (j + 1) L1 (by omega) (by omega) hG1 hw1 (fun i hi => by by_cases e : i = j; (subst e; rw [hU1 i (Nat.le_refl i) (by omega)]; exact rwO_f h_82); exact hP1 i (by omega)) (fun i h1 h2 => hU1 i (by omega) h2)
              | exact ih_lp (j + 1) _ (by omega) (by omega) (hG1.set (by omega) (by omega)) (by rw [fr_setF, if_neg (by omega)]; exact hw1) (fun i hi => by by_cases e : i = j; (subst e; rw [fr_setF, if_pos rfl]; exact hz_109); (rw [fr_setF, if_neg (by omega)]; exact hP1 i (by omega))) (fun i h1 h2 => by rw [fr_setF, if_neg (by omega)]; exact hU1 i (by omega) h2)
            · refine j_aload_n C dX0_makeSquare_85 rfl rfl ?_
              refine g_getR C (hsq.1) fl_X0_114 (by rfl) dX0_makeSquare_86 ?_
              refine j_iload_n C dX0_makeSquare_89 rfl rfl ?_
              refine g_aald3 C (hsq.2.2.1) (by omega) (by decide) (by rfl) (by omega) dX0_makeSquare_90 ?_
              refine j_aload_n C dX0_makeSquare_91 rfl rfl ?_
              refine g_getR C (by assumption) fl_X0_12 (by rfl) dX0_makeSquare_92 ?_
              refine j_iload_n C dX0_makeSquare_95 rfl rfl ?_
              refine j_iload_n C dX0_makeSquare_96 rfl rfl ?_
              refine g_cvR C vc_X0_91 (c_X3_at l G rg _ _ _ _ _ ho2 (by omega) (by omega)) ⟨Nat.le_of_ble_eq_true rfl, Nat.le_of_ble_eq_true rfl⟩ (ho2.1) rfl rfl (Nat.le_of_ble_eq_true rfl) ⟨Nat.zero_le _, Nat.zero_le _⟩ dX0_makeSquare_97 (fun r_97 I_97 L_97 p_97 => ?_)
              obtain ⟨rfl, rfl, rfl⟩ := p_97
              refine j_aload_n C dX0_makeSquare_100 rfl rfl ?_
              refine g_getR C (by assumption) fl_X0_12 (by rfl) dX0_makeSquare_101 ?_
              refine j_iload_n C dX0_makeSquare_104 rfl rfl ?_
              refine j_iload_n C dX0_makeSquare_105 rfl rfl ?_
              refine g_cvR C vc_X0_91 (c_X3_at l G rg _ _ _ _ _ ho2 (by omega) (by omega)) ⟨Nat.le_of_ble_eq_true rfl, Nat.le_of_ble_eq_true rfl⟩ (ho2.1) rfl rfl (Nat.le_of_ble_eq_true rfl) ⟨Nat.zero_le _, Nat.zero_le _⟩ dX0_makeSquare_106 (fun r_106 I_106 L_106 p_106 => ?_)
              obtain ⟨rfl, rfl, rfl⟩ := p_106
              have hFr : isF rg ((o + 39 + 8 * eS E) + 3 + j) := hsq.2.2.2 j (by omega)
              have hFa : isF rg (o + 1 + 2 + (k * 5 + j)) := ho2.2.2 _ (by omega)
              refine g_cvI C vc_X0_117 (c_X2_quotient l G rg _ _ _ _ _ hFr hFa hat) ⟨Nat.le_of_ble_eq_true rfl, Nat.le_of_ble_eq_true rfl⟩ (hFr) rfl rfl (Nat.le_of_ble_eq_true rfl) ⟨Nat.zero_le _, Nat.zero_le _⟩ dX0_makeSquare_109 (fun r_109 I_109 L_109 p_109 => ?_)
              rw [show fr L1 (o + 1 + 2 + (k * 5 + j)) = eM E k j from (hG1.fr (by omega)).trans (hM k j (by omega) (by omega)), show fr L1 (o + 1 + 2 + (k * 5 + k)) = eM E k k from (hG1.fr (by omega)).trans (hM k k (by omega) (by omega)), ← rwO_t h_82] at p_109
              obtain ⟨rfl, ⟨z_109, hz_109, rfl, rfl⟩ | ⟨hz_109, rfl, rfl⟩⟩ := p_109
              · refine j_if_ne (tgt := 117) C dX0_makeSquare_112 (by decide) (fun h_112 => ?_) (fun h_112 => ?_)
                · first | refine n_iinc (n := 1) C dX0_makeSquare_117 rfl (by decide) ?_ | refine j_iinc C dX0_makeSquare_117 rfl rfl (by decide) ?_
                  refine j_goto (tgt := 68) C dX0_makeSquare_120 (by decide) ?_
                  first
                  | exact ih_lp (j + 1) L1 (by omega) (by omega) hG1 hw1 (fun i hi => by by_cases e : i = j; (subst e; rw [hU1 i (Nat.le_refl i) (by omega)]; exact rwO_f h_82); exact hP1 i (by omega)) (fun i h1 h2 => hU1 i (by omega) h2)
                  | exact ih_lp (j + 1) _ (by omega) (by omega) (hG1.set (by omega) (by omega)) (by rw [fr_setF, if_neg (by omega)]; exact hw1) (fun i hi => by by_cases e : i = j; (subst e; rw [fr_setF, if_pos rfl]; exact hz_109); (rw [fr_setF, if_neg (by omega)]; exact hP1 i (by omega))) (fun i h1 h2 => by rw [fr_setF, if_neg (by omega)]; exact hU1 i (by omega) h2)
                · exact absurd h_112 (by decide)
              · refine j_if_ne (tgt := 117) C dX0_makeSquare_112 (by decide) (fun h_112 => ?_) (fun h_112 => ?_)
                · exact absurd rfl h_112
                · refine j_iconst (v := nI 0) C dX0_makeSquare_115 (by decide) ?_
                  exact j_zret C hr (by first | rfl | exact b2i_n _ rfl) dX0_makeSquare_116 (⟨hFI, hG1.mono (by omega) (by omega), Or.inr ⟨rfl, fun q => q j (by omega) hz_109⟩⟩)
      exact lp (n + 2) 0 _ (by omega) (by omega) hF1 (hA1.trans (hM k k (by omega) (by omega))) (fun i hi => absurd hi (Nat.not_lt_zero i)) (fun i _ hi => hC1 i hi)
    · exact absurd h_20 hsg

set_option maxHeartbeats 4000000 in
set_option maxRecDepth 20000 in
theorem c_X0_lessen (l : Launch) (G : GT) (rg : RgT) (I : II) (L : LL) (o n k : Nat) (E : ES) (ho : isEl rg o) (hn : n < 5) (hk : k ≤ n) (hR : RelC n o I L E) (hS1 : 1 ≤ eS E) (hlk : eL E k = false) : CtI l yX0_lessen cX0_lessen 8 (some FieldType.boolean) 4 G rg I L [.ref (gB G + o), .int (nI k)] (fun r I1 L1 => I = I1 ∧ Fm (o + 3) (o + 38) L L1 ∧ ((r = b2i true ∧ lsOk n E k ∧ RelC n o I L1 (lsE n E k)) ∨ (r = b2i false ∧ ¬ lsOk n E k))) := by
  refine ctI_of [some (.ref (gB G + o)), some (.int (nI k)), none, none, none, none, none, none] rfl (Nat.le_of_ble_eq_true rfl) (by decide) ?_
  intro p e s m args below meth c C hr
  obtain ⟨ho1, ho2, ho3, ho4, ho5, ho6, ho7, ho8, ho9⟩ := id ho
  obtain ⟨hN, hS, hS5, hM, hLf, hSq⟩ := id hR
  have hsq := ho9 (eS E - 1) (by omega)
  have lp : ∀ (fuel : Nat) (t : Nat) (L1 : LL), n + 1 < fuel + t → t ≤ n + 1 → Fm (o + 3) (o + 38) L L1 → NLs n k E o L1 t t → J p l e (rmD 4) s m args below meth c (MQ below (QI G rg (fun r I1 L1 => I = I1 ∧ Fm (o + 3) (o + 38) L L1 ∧ ((r = b2i true ∧ lsOk n E k ∧ RelC n o I L1 (lsE n E k)) ∨ (r = b2i false ∧ ¬ lsOk n E k)))) args s 0 0 (rg_A G rg)) 8 G rg 0 0 I L1 14 [some (.ref (gB G + o)), some (.int (nI k)), some (.ref (gB G + (o + 39 + 8 * (eS E - 1)))), some (.int (nI t)), none, none, none, none] [] := by
    intro fuel
    induction fuel with
    | zero => intro t L1 h1 h2 hG1 hT1; exfalso; omega
    | succ fuel ih_lp =>
      intro t L1 h1 h2 hG1 hT1
      refine j_iload_n C dX0_lessen_14 rfl rfl ?_
      refine j_aload_n C dX0_lessen_15 rfl rfl ?_
      refine g_getI C (by assumption) fl_X0_46 (by rfl) dX0_lessen_16 ?_
      refine t_i hN ?_
      first | refine n_icmp_gt (tgt := 188) C (by omega) (by omega) dX0_lessen_19 (by decide) (fun h_19 => ?_) (fun h_19 => ?_) | refine j_icmp_gt (tgt := 188) C dX0_lessen_19 (by decide) (fun h_19 => ?_) (fun h_19 => ?_)
      · refine j_iconst (v := nI 1) C dX0_lessen_188 (by decide) ?_
        exact j_zret C hr (by first | rfl | exact b2i_n _ rfl) dX0_lessen_189 (⟨rfl, hG1, Or.inl ⟨rfl, RelC_ls hR hn hG1 (fun a b ha hb => ⟨fun q1 q2 _ => (hT1 a b ha hb).1 q1 q2 (by have := posn_le ha; have := posn_le hb; unfold prc; omega), fun q => (hT1 a b ha hb).2 (fun z => q ⟨z.1, z.2.1, by have := posn_le ha; have := posn_le hb; unfold prc; omega⟩)⟩)⟩⟩)
      · refine j_iload_n C dX0_lessen_22 rfl rfl ?_
        refine j_aload_n C dX0_lessen_23 rfl rfl ?_
        refine g_getI C (by assumption) fl_X0_46 (by rfl) dX0_lessen_24 ?_
        refine t_i hN ?_
        refine j_csI C sc_X0_87 (c_X6_inOrder l G rg _ _ _ _ (by omega) (by omega)) ⟨Nat.le_of_ble_eq_true rfl, Nat.le_of_ble_eq_true rfl⟩ rfl rfl (Nat.le_of_ble_eq_true rfl) ⟨Nat.zero_le _, Nat.zero_le _⟩ dX0_lessen_27 (fun r_27 I_27 L_27 p_27 => ?_)
        obtain ⟨rfl, rfl, rfl⟩ := p_27
        refine j_istore C dX0_lessen_30 (by decide) ?_
        refine j_iload_n C dX0_lessen_32 rfl rfl ?_
        refine j_istore C dX0_lessen_33 (by decide) ?_
        have lq : ∀ (fuel : Nat) (w : Nat) (L1 : LL), n + 1 < fuel + w → w ≤ n + 1 → t ≤ w → Fm (o + 3) (o + 38) L L1 → NLs n k E o L1 t w → J p l e (rmD 4) s m args below meth c (MQ below (QI G rg (fun r I1 L1 => I = I1 ∧ Fm (o + 3) (o + 38) L L1 ∧ ((r = b2i true ∧ lsOk n E k ∧ RelC n o I L1 (lsE n E k)) ∨ (r = b2i false ∧ ¬ lsOk n E k)))) args s 0 0 (rg_A G rg)) 8 G rg 0 0 I L1 35 [some (.ref (gB G + o)), some (.int (nI k)), some (.ref (gB G + (o + 39 + 8 * (eS E - 1)))), some (.int (nI t)), some (.int (nI (ordn n t))), some (.int (nI w)), none, none] [] := by
          intro fuel
          induction fuel with
          | zero => intro w L1 q1 q2 q3 hG1 hT1; exfalso; omega
          | succ fuel ih_lq =>
            intro w L1 q1 q2 q3 hG1 hT1
            refine j_iload C dX0_lessen_35 rfl ?_
            refine j_aload_n C dX0_lessen_37 rfl rfl ?_
            refine g_getI C (by assumption) fl_X0_46 (by rfl) dX0_lessen_38 ?_
            refine t_i hN ?_
            first | refine n_icmp_gt (tgt := 182) C (by omega) (by omega) dX0_lessen_41 (by decide) (fun h_41 => ?_) (fun h_41 => ?_) | refine j_icmp_gt (tgt := 182) C dX0_lessen_41 (by decide) (fun h_41 => ?_) (fun h_41 => ?_)
            · first | refine n_iinc (n := 1) C dX0_lessen_182 rfl (by decide) ?_ | refine j_iinc C dX0_lessen_182 rfl rfl (by decide) ?_
              refine j_goto (tgt := 14) C dX0_lessen_185 (by decide) ?_
              refine j_rm 4 ?_
              refine j_rm 5 ?_
              refine j_rm 6 ?_
              refine j_rm 7 ?_
              exact ih_lp (t + 1) L1 (by omega) (by omega) hG1 (NLs_n hT1 (by omega))
            · refine j_iload C dX0_lessen_44 rfl ?_
              refine j_aload_n C dX0_lessen_46 rfl rfl ?_
              refine g_getI C (by assumption) fl_X0_46 (by rfl) dX0_lessen_47 ?_
              refine t_i hN ?_
              refine j_csI C sc_X0_87 (c_X6_inOrder l G rg _ _ _ _ (by omega) (by omega)) ⟨Nat.le_of_ble_eq_true rfl, Nat.le_of_ble_eq_true rfl⟩ rfl rfl (Nat.le_of_ble_eq_true rfl) ⟨Nat.zero_le _, Nat.zero_le _⟩ dX0_lessen_50 (fun r_50 I_50 L_50 p_50 => ?_)
              obtain ⟨rfl, rfl, rfl⟩ := p_50
              refine j_istore C dX0_lessen_53 (by decide) ?_
              refine j_aload_n C dX0_lessen_55 rfl rfl ?_
              refine g_getR C (by assumption) fl_X0_18 (by rfl) dX0_lessen_56 ?_
              refine j_iload C dX0_lessen_59 rfl ?_
              refine g_zald C (ho3) (by have := ordn_le n t; omega) (by decide) dX0_lessen_61 ?_
              have o1 := ordn_le n t
              have o2 := ordn_le n w
              refine t_i (hLf (ordn n t) (by omega)) ?_
              first | refine n_if_eq (tgt := 176) C dX0_lessen_62 (by decide) (fun h_62 => ?_) (fun h_62 => ?_) | refine j_if_eq (tgt := 176) C dX0_lessen_62 (by decide) (fun h_62 => ?_) (fun h_62 => ?_)
              · first | refine n_iinc (n := 1) C dX0_lessen_176 rfl (by decide) ?_ | refine j_iinc C dX0_lessen_176 rfl rfl (by decide) ?_
                refine j_goto (tgt := 35) C dX0_lessen_179 (by decide) ?_
                refine j_rm 6 ?_
                refine j_rm 7 ?_
                first
                | exact ih_lq (w + 1) L1 (by omega) (by omega) (by omega) hG1 (NLs_skip hT1 q3 (by omega) (fun q => by first | exact absurd (h_62.symm.trans q.1) (by decide) | exact absurd (h_72.symm.trans q.2) (by decide)))
                | (refine ih_lq (w + 1) _ (by omega) (by omega) (by omega) (((hG1.set (by omega) (by omega)).set (by omega) (by omega)).set (by omega) (by omega)) (NLs_s hT1 hn q3 (by omega) hcp ?_ ?_ (fun q w1 w2 w3 => ?_) h_62 h_72)
                   · simp only [fr_setF]; split <;> simp_all
                   · rw [show o + 3 + (ordn n w * 5 + ordn n t) = o + 1 + 2 + (ordn n w * 5 + ordn n t) by omega, fr_setF, if_pos rfl, fr_setF, if_pos rfl]
                   · rw [fr_setF, if_neg (by omega), fr_setF, if_neg (by omega), fr_setF, if_neg (by omega)])
              · refine j_aload_n C dX0_lessen_65 rfl rfl ?_
                refine g_getR C (by assumption) fl_X0_18 (by rfl) dX0_lessen_66 ?_
                refine j_iload C dX0_lessen_69 rfl ?_
                refine g_zald C (ho3) (by omega) (by decide) dX0_lessen_71 ?_
                refine t_i (hLf (ordn n w) (by omega)) ?_
                first | refine n_if_ne (tgt := 78) C dX0_lessen_72 (by decide) (fun h_72 => ?_) (fun h_72 => ?_) | refine j_if_ne (tgt := 78) C dX0_lessen_72 (by decide) (fun h_72 => ?_) (fun h_72 => ?_)
                · refine j_aload_n C dX0_lessen_78 rfl rfl ?_
                  refine g_getR C (by assumption) fl_X0_39 (by rfl) dX0_lessen_79 ?_
                  refine j_aload_n C dX0_lessen_82 rfl rfl ?_
                  refine g_getR C (by assumption) fl_X0_12 (by rfl) dX0_lessen_83 ?_
                  refine j_iload C dX0_lessen_86 rfl ?_
                  refine j_iload_n C dX0_lessen_88 rfl rfl ?_
                  refine g_cvR C vc_X0_91 (c_X3_at l G rg _ _ _ _ _ ho2 (by omega) (by omega)) ⟨Nat.le_of_ble_eq_true rfl, Nat.le_of_ble_eq_true rfl⟩ (ho2.1) rfl rfl (Nat.le_of_ble_eq_true rfl) ⟨Nat.zero_le _, Nat.zero_le _⟩ dX0_lessen_89 (fun r_89 I_89 L_89 p_89 => ?_)
                  obtain ⟨rfl, rfl, rfl⟩ := p_89
                  refine j_aload_n C dX0_lessen_92 rfl rfl ?_
                  refine g_getR C (hsq.1) fl_X0_114 (by rfl) dX0_lessen_93 ?_
                  refine j_iload C dX0_lessen_96 rfl ?_
                  refine g_aald3 C (hsq.2.2.1) (by omega) (by decide) (by rfl) (by omega) dX0_lessen_98 ?_
                  have hFa : isF rg (o + 1 + 2 + (ordn n t * 5 + k)) := ho2.2.2 _ (by omega)
                  have hFr : isF rg ((o + 39 + 8 * (eS E - 1)) + 3 + ordn n w) := hsq.2.2.2 _ (by omega)
                  refine g_cvI C vc_X0_121 (c_X2_product l G rg _ _ _ _ _ ho7 hFa hFr) ⟨Nat.le_of_ble_eq_true rfl, Nat.le_of_ble_eq_true rfl⟩ (ho7) rfl rfl (Nat.le_of_ble_eq_true rfl) ⟨Nat.zero_le _, Nat.zero_le _⟩ dX0_lessen_99 (fun r_99 I_99 L_99 p_99 => ?_)
                  rw [show fr L1 (o + 1 + 2 + (ordn n t * 5 + k)) = eM E (ordn n t) k from (hT1 (ordn n t) k (by omega) (by omega)).2 (fun q => by rw [hlk] at q; cases q.2.1), show fr L1 ((o + 39 + 8 * (eS E - 1)) + 3 + ordn n w) = eN E (eS E - 1) (ordn n w) from (hG1.fr (by omega)).trans (by rw [show (o + 39 + 8 * (eS E - 1)) + 3 + ordn n w = o + 42 + 8 * (eS E - 1) + ordn n w by omega]; exact (hSq (eS E - 1) (by omega)).2.2.2 (ordn n w) (by omega))] at p_99
                  obtain ⟨rfl, ⟨z_99, hz_99, rfl, rfl⟩ | ⟨hz_99, rfl, rfl⟩⟩ := p_99
                  · refine j_if_eq (tgt := 141) C dX0_lessen_102 (by decide) (fun h_102 => ?_) (fun h_102 => ?_)
                    · exact absurd h_102 (by decide)
                    · refine j_aload_n C dX0_lessen_105 rfl rfl ?_
                      refine g_getR C (by assumption) fl_X0_12 (by rfl) dX0_lessen_106 ?_
                      refine j_iload C dX0_lessen_109 rfl ?_
                      refine j_iload C dX0_lessen_111 rfl ?_
                      refine g_cvR C vc_X0_91 (c_X3_at l G rg _ _ _ _ _ ho2 (by omega) (by omega)) ⟨Nat.le_of_ble_eq_true rfl, Nat.le_of_ble_eq_true rfl⟩ (ho2.1) rfl rfl (Nat.le_of_ble_eq_true rfl) ⟨Nat.zero_le _, Nat.zero_le _⟩ dX0_lessen_113 (fun r_113 I_113 L_113 p_113 => ?_)
                      obtain ⟨rfl, rfl, rfl⟩ := p_113
                      refine j_aload_n C dX0_lessen_116 rfl rfl ?_
                      refine g_getR C (by assumption) fl_X0_12 (by rfl) dX0_lessen_117 ?_
                      refine j_iload C dX0_lessen_120 rfl ?_
                      refine j_iload C dX0_lessen_122 rfl ?_
                      refine g_cvR C vc_X0_91 (c_X3_at l G rg _ _ _ _ _ ho2 (by omega) (by omega)) ⟨Nat.le_of_ble_eq_true rfl, Nat.le_of_ble_eq_true rfl⟩ (ho2.1) rfl rfl (Nat.le_of_ble_eq_true rfl) ⟨Nat.zero_le _, Nat.zero_le _⟩ dX0_lessen_124 (fun r_124 I_124 L_124 p_124 => ?_)
                      obtain ⟨rfl, rfl, rfl⟩ := p_124
                      refine j_aload_n C dX0_lessen_127 rfl rfl ?_
                      refine g_getR C (by assumption) fl_X0_39 (by rfl) dX0_lessen_128 ?_
                      have hFx : isF rg (o + 1 + 2 + (ordn n t * 5 + ordn n w)) := ho2.2.2 _ (by omega)
                      refine g_cvI C vc_X0_123 (c_X2_difference l G rg _ _ _ _ _ hFx hFx ho7) ⟨Nat.le_of_ble_eq_true rfl, Nat.le_of_ble_eq_true rfl⟩ (hFx) rfl rfl (Nat.le_of_ble_eq_true rfl) ⟨Nat.zero_le _, Nat.zero_le _⟩ dX0_lessen_131 (fun r_131 I_131 L_131 p_131 => ?_)
                      rw [fr_setF, if_neg (by omega), fr_setF, if_pos rfl, show fr L1 (o + 1 + 2 + (ordn n t * 5 + ordn n w)) = eM E (ordn n t) (ordn n w) from (hT1 (ordn n t) (ordn n w) (by omega) (by omega)).2 (fun q => by have := q.2.2; rw [posn_ordn (by omega), posn_ordn (by omega)] at this; unfold prc at this; omega)] at p_131
                      obtain ⟨rfl, ⟨z_131, hz_131, rfl, rfl⟩ | ⟨hz_131, rfl, rfl⟩⟩ := p_131
                      · have hcp : cpO E k (ordn n t) (ordn n w) = some z_131 := by unfold cpO; rw [hz_99]; exact hz_131
                        refine j_if_eq (tgt := 141) C dX0_lessen_134 (by decide) (fun h_134 => ?_) (fun h_134 => ?_)
                        · exact absurd h_134 (by decide)
                        · refine j_iconst (v := nI 1) C dX0_lessen_137 (by decide) ?_
                          refine j_goto (tgt := 142) C dX0_lessen_138 (by decide) ?_
                          refine j_istore C dX0_lessen_142 (by decide) ?_
                          refine j_iload C dX0_lessen_144 rfl ?_
                          refine j_if_ne (tgt := 151) C dX0_lessen_146 (by decide) (fun h_146 => ?_) (fun h_146 => ?_)
                          · refine j_aload_n C dX0_lessen_151 rfl rfl ?_
                            refine g_getR C (by assumption) fl_X0_12 (by rfl) dX0_lessen_152 ?_
                            refine j_iload C dX0_lessen_155 rfl ?_
                            refine j_iload C dX0_lessen_157 rfl ?_
                            refine g_cvR C vc_X0_91 (c_X3_at l G rg _ _ _ _ _ ho2 (by omega) (by omega)) ⟨Nat.le_of_ble_eq_true rfl, Nat.le_of_ble_eq_true rfl⟩ (ho2.1) rfl rfl (Nat.le_of_ble_eq_true rfl) ⟨Nat.zero_le _, Nat.zero_le _⟩ dX0_lessen_159 (fun r_159 I_159 L_159 p_159 => ?_)
                            obtain ⟨rfl, rfl, rfl⟩ := p_159
                            refine j_aload_n C dX0_lessen_162 rfl rfl ?_
                            refine g_getR C (by assumption) fl_X0_12 (by rfl) dX0_lessen_163 ?_
                            refine j_iload C dX0_lessen_166 rfl ?_
                            refine j_iload C dX0_lessen_168 rfl ?_
                            refine g_cvR C vc_X0_91 (c_X3_at l G rg _ _ _ _ _ ho2 (by omega) (by omega)) ⟨Nat.le_of_ble_eq_true rfl, Nat.le_of_ble_eq_true rfl⟩ (ho2.1) rfl rfl (Nat.le_of_ble_eq_true rfl) ⟨Nat.zero_le _, Nat.zero_le _⟩ dX0_lessen_170 (fun r_170 I_170 L_170 p_170 => ?_)
                            obtain ⟨rfl, rfl, rfl⟩ := p_170
                            have hFy : isF rg (o + 1 + 2 + (ordn n t * 5 + ordn n w)) := ho2.2.2 _ (by omega)
                            have hFz : isF rg (o + 1 + 2 + (ordn n w * 5 + ordn n t)) := ho2.2.2 _ (by omega)
                            refine g_cvV C vc_X0_126 (c_X2_copy l G rg _ _ _ _ hFz hFy) ⟨Nat.le_of_ble_eq_true rfl, Nat.le_of_ble_eq_true rfl⟩ (hFz) rfl rfl (Nat.le_of_ble_eq_true rfl) ⟨Nat.zero_le _, Nat.zero_le _⟩ dX0_lessen_173 (fun I_173 L_173 p_173 => ?_)
                            obtain ⟨rfl, rfl⟩ := p_173
                            first | refine n_iinc (n := 1) C dX0_lessen_176 rfl (by decide) ?_ | refine j_iinc C dX0_lessen_176 rfl rfl (by decide) ?_
                            refine j_goto (tgt := 35) C dX0_lessen_179 (by decide) ?_
                            refine j_rm 6 ?_
                            refine j_rm 7 ?_
                            first
                            | exact ih_lq (w + 1) L1 (by omega) (by omega) (by omega) hG1 (NLs_skip hT1 q3 (by omega) (fun q => by first | exact absurd (h_62.symm.trans q.1) (by decide) | exact absurd (h_72.symm.trans q.2) (by decide)))
                            | (refine ih_lq (w + 1) _ (by omega) (by omega) (by omega) (((hG1.set (by omega) (by omega)).set (by omega) (by omega)).set (by omega) (by omega)) (NLs_s hT1 hn q3 (by omega) hcp ?_ ?_ (fun q w1 w2 w3 => ?_) h_62 h_72)
                               · simp only [fr_setF]; split <;> simp_all
                               · rw [show o + 3 + (ordn n w * 5 + ordn n t) = o + 1 + 2 + (ordn n w * 5 + ordn n t) by omega, fr_setF, if_pos rfl, fr_setF, if_pos rfl]
                               · rw [fr_setF, if_neg (by omega), fr_setF, if_neg (by omega), fr_setF, if_neg (by omega)])
                          · exact absurd h_146 (by decide)
                      · have hcp : cpO E k (ordn n t) (ordn n w) = none := by unfold cpO; rw [hz_99]; exact hz_131
                        refine j_if_eq (tgt := 141) C dX0_lessen_134 (by decide) (fun h_134 => ?_) (fun h_134 => ?_)
                        · refine j_iconst (v := nI 0) C dX0_lessen_141 (by decide) ?_
                          refine j_istore C dX0_lessen_142 (by decide) ?_
                          refine j_iload C dX0_lessen_144 rfl ?_
                          refine j_if_ne (tgt := 151) C dX0_lessen_146 (by decide) (fun h_146 => ?_) (fun h_146 => ?_)
                          · exact absurd rfl h_146
                          · refine j_iconst (v := nI 0) C dX0_lessen_149 (by decide) ?_
                            exact j_zret C hr (by first | rfl | exact b2i_n _ rfl) dX0_lessen_150 (⟨rfl, by first | exact hG1 | exact hG1.set (by omega) (by omega) | exact (hG1.set (by omega) (by omega)).set (by omega) (by omega), Or.inr ⟨rfl, fun q => q (ordn n t) (ordn n w) (by omega) (by omega) h_62 h_72 (by rw [nwO_ord (by omega) (by omega)]; exact hcp)⟩⟩)
                        · exact absurd rfl h_134
                  · have hcp : cpO E k (ordn n t) (ordn n w) = none := by unfold cpO; rw [hz_99]; rfl
                    refine j_if_eq (tgt := 141) C dX0_lessen_102 (by decide) (fun h_102 => ?_) (fun h_102 => ?_)
                    · refine j_iconst (v := nI 0) C dX0_lessen_141 (by decide) ?_
                      refine j_istore C dX0_lessen_142 (by decide) ?_
                      refine j_iload C dX0_lessen_144 rfl ?_
                      refine j_if_ne (tgt := 151) C dX0_lessen_146 (by decide) (fun h_146 => ?_) (fun h_146 => ?_)
                      · exact absurd rfl h_146
                      · refine j_iconst (v := nI 0) C dX0_lessen_149 (by decide) ?_
                        exact j_zret C hr (by first | rfl | exact b2i_n _ rfl) dX0_lessen_150 (⟨rfl, by first | exact hG1 | exact hG1.set (by omega) (by omega) | exact (hG1.set (by omega) (by omega)).set (by omega) (by omega), Or.inr ⟨rfl, fun q => q (ordn n t) (ordn n w) (by omega) (by omega) h_62 h_72 (by rw [nwO_ord (by omega) (by omega)]; exact hcp)⟩⟩)
                    · exact absurd rfl h_102
                · refine j_goto (tgt := 176) C dX0_lessen_75 (by decide) ?_
                  first | refine n_iinc (n := 1) C dX0_lessen_176 rfl (by decide) ?_ | refine j_iinc C dX0_lessen_176 rfl rfl (by decide) ?_
                  refine j_goto (tgt := 35) C dX0_lessen_179 (by decide) ?_
                  refine j_rm 6 ?_
                  refine j_rm 7 ?_
                  first
                  | exact ih_lq (w + 1) L1 (by omega) (by omega) (by omega) hG1 (NLs_skip hT1 q3 (by omega) (fun q => by first | exact absurd (h_62.symm.trans q.1) (by decide) | exact absurd (h_72.symm.trans q.2) (by decide)))
                  | (refine ih_lq (w + 1) _ (by omega) (by omega) (by omega) (((hG1.set (by omega) (by omega)).set (by omega) (by omega)).set (by omega) (by omega)) (NLs_s hT1 hn q3 (by omega) hcp ?_ ?_ (fun q w1 w2 w3 => ?_) h_62 h_72)
                     · simp only [fr_setF]; split <;> simp_all
                     · rw [show o + 3 + (ordn n w * 5 + ordn n t) = o + 1 + 2 + (ordn n w * 5 + ordn n t) by omega, fr_setF, if_pos rfl, fr_setF, if_pos rfl]
                     · rw [fr_setF, if_neg (by omega), fr_setF, if_neg (by omega), fr_setF, if_neg (by omega)])
        exact lq (n + 2) t L1 (by omega) (by omega) (by omega) hG1 hT1
  refine j_aload_n C dX0_lessen_0 rfl rfl ?_
  refine g_getR C (by assumption) fl_X0_24 (by rfl) dX0_lessen_1 ?_
  refine j_aload_n C dX0_lessen_4 rfl rfl ?_
  refine g_getI C (by assumption) fl_X0_50 (by rfl) dX0_lessen_5 ?_
  refine t_i hS ?_
  refine j_iconst (v := nI 1) C dX0_lessen_8 (by decide) ?_
  first | refine n_isub C (by omega) dX0_lessen_9 ?_ | refine j_isub C dX0_lessen_9 ?_
  refine g_aald4 C (ho4) (by omega) (by decide) (by rfl) (by omega) dX0_lessen_10 ?_
  refine j_astore_n C dX0_lessen_11 rfl (by decide) ?_
  refine j_iconst (v := nI 0) C dX0_lessen_12 (by decide) ?_
  refine j_istore_n C dX0_lessen_13 rfl (by decide) ?_
  exact lp (n + 2) 0 _ (by omega) (by omega) Fm.rf (NLs_0 hM)
