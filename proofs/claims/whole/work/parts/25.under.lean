/-! ===== under, check, equal ===== -/
def eD : ES := E0 0 (fun _ _ => (0, 1))
def mD : Nat → Nat → Fr := fun _ _ => (0, 1)
abbrev UQ : Type := Nat × ES × Option (Nat → Fr) × (Nat → Nat → Fr) × Int32 × Int32
noncomputable def unQ (n : Nat) (g c : Nat → Int32) (r : MR) : UQ := match r.2 with
  | some w => (1, w.2.2.1, none, w.2.2.2, nI w.1, nI w.2.1)
  | none => match wpO n g c (7 ^ n) 0 with
    | some t => (0, eD, some (fun k => (gx n t k, 1)), mD, 0, 1)
    | none => (2, eD, none, mD, 0, 1)
def unOk (A : AS) (x y z : Int32) : Prop := okF x (aF A) = true ∧ okF y (aF A) = true ∧ ¬ z < 1 ∧ z ≤ 20
noncomputable def unM (A : AS) (x y z : Int32) : MR := mfS (aN A) (aV A x.toNatClampNeg) (aV A y.toNatClampNeg) z.toNatClampNeg z.toNatClampNeg 0
noncomputable def unW (A : AS) (x y z : Int32) : UQ := unQ (aN A) (aV A x.toNatClampNeg) (aV A y.toNatClampNeg) (unM A x y z)
noncomputable def underR (A : AS) (x y z : Int32) : Int32 := cif (unOk A x y z) (nI (unW A x y z).1) (-1)
noncomputable def underS (A : AS) (x y z : Int32) : AS := cif (unOk A x y z) (toldS A (unW A x y z).1 (unW A x y z).2.1 (unW A x y z).2.2.1 (unW A x y z).2.2.2.1 x y (unW A x y z).2.2.2.2.1 (unW A x y z).2.2.2.2.2 (nI (unM A x y z).1)) A
theorem ub1 {A : AS} {x y z : Int32} (h : okF x (aF A) = false) : ¬ unOk A x y z := fun q => by rw [q.1] at h; cases h
theorem ub2 {A : AS} {x y z : Int32} (h : okF y (aF A) = false) : ¬ unOk A x y z := fun q => by rw [q.2.1] at h; cases h
theorem ub3 {A : AS} {x y z : Int32} (h : z < 1) : ¬ unOk A x y z := fun q => q.2.2.1 h
theorem ub4 {A : AS} {x y z : Int32} (h : ¬ z ≤ 20) : ¬ unOk A x y z := fun q => h q.2.2.2
theorem fin_x {x : Int32} (h1 : ¬ x < 1) (h2 : x ≤ 20) : x = nI x.toNatClampNeg ∧ 1 ≤ x.toNatClampNeg ∧ x.toNatClampNeg ≤ 20 := by
  rw [Int32.lt_iff_toInt_lt, show (1 : Int32).toInt = 1 by decide] at h1
  rw [Int32.le_iff_toInt_le, show (20 : Int32).toInt = 20 by decide] at h2
  have h0 : 0 ≤ x.toInt := by omega
  have := clampJ h0
  exact ⟨clampI h0, by omega, by omega⟩
theorem tl_all {T : Nat → Int32} {a b c d e f g : Int32} (h0 : T 0 = a) (h1 : T 1 = b) (h2 : T 2 = c) (h3 : T 3 = d) (h4 : T 4 = e) (h5 : T 5 = f) (h6 : T 6 = g) : ∀ k, k < 7 → T k = tl7 a b c d e f g k := by
  intro k hk
  rcases (show k = 0 ∨ k = 1 ∨ k = 2 ∨ k = 3 ∨ k = 4 ∨ k = 5 ∨ k = 6 by omega) with rfl | rfl | rfl | rfl | rfl | rfl | rfl
  · exact h0
  · exact h1
  · exact h2
  · exact h3
  · exact h4
  · exact h5
  · exact h6
theorem unQ_1 {n : Nat} {g c : Nat → Int32} {r : MR} {p q : Nat} {E : ES} {M : Nat → Nat → Fr} (h : r.2 = some (p, q, E, M)) : unQ n g c r = (1, E, none, M, nI p, nI q) := by unfold unQ; rw [h]
theorem unQ_2 {n : Nat} {g c : Nat → Int32} {r : MR} {t : Nat} (h : r.2 = none) (h2 : wpO n g c (7 ^ n) 0 = some t) : unQ n g c r = (0, eD, some (fun k => (gx n t k, 1)), mD, 0, 1) := by unfold unQ; rw [h]; simp only [h2]
theorem unQ_3 {n : Nat} {g c : Nat → Int32} {r : MR} (h : r.2 = none) (h2 : wpO n g c (7 ^ n) 0 = none) : unQ n g c r = (2, eD, none, mD, 0, 1) := by unfold unQ; rw [h]; simp only [h2]
/-- an item of the squares, expanded -/
def itO (E : ES) (s i j : Nat) : Option Fr := (fMul (eW E s) (eN E s i)).bind (fun x => fMul x (eN E s j))
def exO (E : ES) (i j : Nat) : Nat → Fr → Option Fr
  | 0, a => some a
  | k + 1, a => ((itO E (eS E - (k + 1)) i j).bind (fAdd a)).bind (exO E i j k)
theorem exO_s {E : ES} {i j s : Nat} {a x y : Fr} (hs : s < eS E) (h1 : itO E s i j = some x) (h2 : fAdd a x = some y) : exO E i j (eS E - s) a = exO E i j (eS E - (s + 1)) y := by
  rw [show eS E - s = (eS E - (s + 1)) + 1 by omega, exO, show eS E - (eS E - (s + 1) + 1) = s by omega, h1]
  show ((fAdd a x).bind _) = _
  rw [h2]; rfl
theorem exO_n1 {E : ES} {i j s : Nat} {a : Fr} (hs : s < eS E) (h1 : itO E s i j = none) : exO E i j (eS E - s) a = none := by
  rw [show eS E - s = (eS E - (s + 1)) + 1 by omega, exO, show eS E - (eS E - (s + 1) + 1) = s by omega, h1]; rfl
theorem exO_n2 {E : ES} {i j s : Nat} {a x : Fr} (hs : s < eS E) (h1 : itO E s i j = some x) (h2 : fAdd a x = none) : exO E i j (eS E - s) a = none := by
  rw [show eS E - s = (eS E - (s + 1)) + 1 by omega, exO, show eS E - (eS E - (s + 1) + 1) = s by omega, h1]
  show ((fAdd a x).bind _) = _
  rw [h2]; rfl
def ckLong (A : AS) : Prop := ∃ i j, i ≤ aN A ∧ j ≤ aN A ∧ exO (aE A) i j (eS (aE A)) (0, 1) = none
def ckSame (A : AS) : Prop := ∀ i j, i ≤ aN A → j ≤ aN A → exO (aE A) i j (eS (aE A)) (0, 1) = some (aM A i j)
noncomputable def checkR (A : AS) : Int32 := if aT A 0 = 1 then cif (ckLong A) 2 (cif (ckSame A) 1 0) else -2
noncomputable def eqW (A : AS) : Option (Nat → Fr) := gbO (aN A) (aE A) (eS (aE A)) (va_up z0 0 (1, 1))
noncomputable def equalR (A : AS) : Int32 := if aT A 0 = 1 then (if eL (aE A) 0 = true then (match eqW A with
  | some _ => 1
  | none => 2) else 0) else -2
noncomputable def equalS (A : AS) : AS := if aT A 0 = 1 then (aN A, aF A, aP A, aV A, aT A, aE A, aM A, if eL (aE A) 0 = true then eqW A else none) else A

set_option maxHeartbeats 4000000 in
set_option maxRecDepth 20000 in
theorem c_X6_under (l : Launch) (G : GT) (rg : RgT) (I : II) (L : LL) (A : AS) (x y z : Int32) (hss : isSS rg) (hRC : RC A I L) (hok : aok A) : CtI l yX6_under cX6_under 4 (some FieldType.int) 8 G rg I L [.ref (gB G + 0), .int x, .int y, .int z] (fun r I1 L1 => r = underR A x y z ∧ RC (underS A x y z) I1 L1) := by
  refine ctI_of [some (.ref (gB G + 0)), some (.int x), some (.int y), some (.int z)] rfl (Nat.le_of_ble_eq_true rfl) (by decide) ?_
  intro p e s m args below meth c C hr
  obtain ⟨so1, so2, so3, so4, so5, so6, so7, so8, so9, so10, so11, so12⟩ := id hss
  obtain ⟨rN, rF, rP, rV, rT, rX, rx0, rXv, rE⟩ := id hRC
  obtain ⟨kN, kN4, kF, kT, kT0, kP⟩ := id hok
  refine j_aload_n C dX6_under_0 rfl rfl ?_
  refine j_iload_n C dX6_under_1 rfl rfl ?_
  refine g_cvI C vc_X6_84 (c_X6_isForm l G rg _ _ A _ hss hRC hok) ⟨Nat.le_of_ble_eq_true rfl, Nat.le_of_ble_eq_true rfl⟩ (by assumption) rfl rfl (Nat.le_of_ble_eq_true rfl) ⟨Nat.zero_le _, Nat.zero_le _⟩ dX6_under_2 (fun r_2 I_2 L_2 p_2 => ?_)
  obtain ⟨rfl, rfl, rfl⟩ := p_2
  first | refine n_if_eq (tgt := 27) C dX6_under_5 (by decide) (fun h_5 => ?_) (fun h_5 => ?_) | refine j_if_eq (tgt := 27) C dX6_under_5 (by decide) (fun h_5 => ?_) (fun h_5 => ?_)
  · refine j_iconst (v := (-1)) C dX6_under_27 (by decide) ?_
    exact j_iret C hr dX6_under_28 (by have hb : ¬ unOk A x y z := (by first | exact ub1 h_5 | exact ub2 h_13 | exact ub3 h_18 | exact ub4 h_24); unfold underR underS; rw [cif_f hb, cif_f hb]; exact ⟨rfl, hRC⟩)
  · refine j_aload_n C dX6_under_8 rfl rfl ?_
    refine j_iload_n C dX6_under_9 rfl rfl ?_
    refine g_cvI C vc_X6_84 (c_X6_isForm l G rg _ _ A _ hss hRC hok) ⟨Nat.le_of_ble_eq_true rfl, Nat.le_of_ble_eq_true rfl⟩ (by assumption) rfl rfl (Nat.le_of_ble_eq_true rfl) ⟨Nat.zero_le _, Nat.zero_le _⟩ dX6_under_10 (fun r_10 I_10 L_10 p_10 => ?_)
    obtain ⟨rfl, rfl, rfl⟩ := p_10
    first | refine n_if_eq (tgt := 27) C dX6_under_13 (by decide) (fun h_13 => ?_) (fun h_13 => ?_) | refine j_if_eq (tgt := 27) C dX6_under_13 (by decide) (fun h_13 => ?_) (fun h_13 => ?_)
    · refine j_iconst (v := (-1)) C dX6_under_27 (by decide) ?_
      exact j_iret C hr dX6_under_28 (by have hb : ¬ unOk A x y z := (by first | exact ub1 h_5 | exact ub2 h_13 | exact ub3 h_18 | exact ub4 h_24); unfold underR underS; rw [cif_f hb, cif_f hb]; exact ⟨rfl, hRC⟩)
    · refine j_iload_n C dX6_under_16 rfl rfl ?_
      refine j_iconst (v := (1)) C dX6_under_17 (by decide) ?_
      refine j_icmp_lt (tgt := 27) C dX6_under_18 (by decide) (fun h_18 => ?_) (fun h_18 => ?_)
      · refine j_iconst (v := (-1)) C dX6_under_27 (by decide) ?_
        exact j_iret C hr dX6_under_28 (by have hb : ¬ unOk A x y z := (by first | exact ub1 h_5 | exact ub2 h_13 | exact ub3 h_18 | exact ub4 h_24); unfold underR underS; rw [cif_f hb, cif_f hb]; exact ⟨rfl, hRC⟩)
      · refine j_iload_n C dX6_under_21 rfl rfl ?_
        refine j_bipush (v := (20)) C dX6_under_22 (by decide) ?_
        refine j_icmp_le (tgt := 29) C dX6_under_24 (by decide) (fun h_24 => ?_) (fun h_24 => ?_)
        · have hb : unOk A x y z := ⟨h_5, h_13, h_18, h_24⟩
          have hur : underR A x y z = nI (unW A x y z).1 := cif_t hb
          have hus : underS A x y z = toldS A (unW A x y z).1 (unW A x y z).2.1 (unW A x y z).2.2.1 (unW A x y z).2.2.2.1 x y (unW A x y z).2.2.2.2.1 (unW A x y z).2.2.2.2.2 (nI (unM A x y z).1) := cif_t hb
          obtain ⟨hx, hxn⟩ := okF_t h_5
          obtain ⟨hy, hyn⟩ := okF_t h_13
          obtain ⟨hz, hz1, hz2⟩ := fin_x h_18 h_24
          obtain ⟨g, hge⟩ : ∃ g, g = x.toNatClampNeg := ⟨_, rfl⟩
          obtain ⟨cn, hce⟩ : ∃ g, g = y.toNatClampNeg := ⟨_, rfl⟩
          obtain ⟨fin, hfe⟩ : ∃ g, g = z.toNatClampNeg := ⟨_, rfl⟩
          have hum : unM A x y z = mfS (aN A) (aV A g) (aV A cn) fin fin 0 := by unfold unM; rw [← hge, ← hce, ← hfe]
          have huw : unW A x y z = unQ (aN A) (aV A g) (aV A cn) (mfS (aN A) (aV A g) (aV A cn) fin fin 0) := by unfold unW; rw [hum, ← hge, ← hce]
          rw [hum] at hus
          rw [huw] at hur hus
          rw [← hge] at hx hxn
          rw [← hce] at hy hyn
          rw [← hfe] at hz hz1 hz2
          refine j_aload_n C dX6_under_29 rfl rfl ?_
          refine j_iload_n C dX6_under_30 rfl rfl ?_
          refine j_iload_n C dX6_under_31 rfl rfl ?_
          refine g_cvV C vc_X6_112 (c_X6_startTelling l G rg _ _ x y (aP A) hss rP) ⟨Nat.le_of_ble_eq_true rfl, Nat.le_of_ble_eq_true rfl⟩ (so1) rfl rfl (Nat.le_of_ble_eq_true rfl) ⟨Nat.zero_le _, Nat.zero_le _⟩ dX6_under_32 (fun I_32 L_32 p_32 => ?_)
          obtain ⟨rfl, i1, i2, i3, i4⟩ := p_32
          have rN1 := (i2 10 (by decide)).trans rN
          have rVg : ∀ q, q < 25 → I_32 (203 + 2 * g) q = aV A g q := fun q hq => by rw [i1 _ (by omega) (by omega)]; exact rV g q (by omega) hq
          have rVc : ∀ q, q < 25 → I_32 (203 + 2 * cn) q = aV A cn q := fun q hq => by rw [i1 _ (by omega) (by omega)]; exact rV cn q (by omega) hq
          refine j_aload_n C dX6_under_35 rfl rfl ?_
          refine j_aload_n C dX6_under_36 rfl rfl ?_
          refine g_getR C (by assumption) fl_X6_11 (by rfl) dX6_under_37 ?_
          refine j_iload_n C dX6_under_40 rfl rfl ?_
          refine t_i hx ?_
          refine g_aald5 C (so2) (by omega) (by decide) (by rfl) (by omega) dX6_under_41 ?_
          refine j_aload_n C dX6_under_42 rfl rfl ?_
          refine g_getR C (by assumption) fl_X6_11 (by rfl) dX6_under_43 ?_
          refine j_iload_n C dX6_under_46 rfl rfl ?_
          refine t_i hy ?_
          refine g_aald5 C (so2) (by omega) (by decide) (by rfl) (by omega) dX6_under_47 ?_
          refine j_iload_n C dX6_under_48 rfl rfl ?_
          refine t_i hz ?_
          refine g_cvI C vc_X6_140 (c_X6_multiplierFound l G rg _ _ (aN A) g cn fin (aV A g) (aV A cn) hss (by omega) (by omega) rVg rVc rN1 (by omega) (by omega) (i4 6 (by omega))) ⟨Nat.le_of_ble_eq_true rfl, Nat.le_of_ble_eq_true rfl⟩ (so1) rfl rfl (Nat.le_of_ble_eq_true rfl) ⟨Nat.zero_le _, Nat.zero_le _⟩ dX6_under_49 (fun r_49 I_49 L_49 p_49 => ?_)
          obtain ⟨hMF, m6, m4, ⟨rfl, p0, q0, E, M, hres, mp, mq, hRel, hM⟩ | ⟨rfl, hres, mp, mq⟩⟩ := p_49
          · refine j_if_eq (tgt := 61) C dX6_under_52 (by decide) (fun h_52 => ?_) (fun h_52 => ?_)
            · exact absurd h_52 (by decide)
            · refine j_aload_n C dX6_under_55 rfl rfl ?_
              refine j_iconst (v := nI 1) C dX6_under_56 (by decide) ?_
              refine g_cvI C vc_X6_136 (c_X6_endTelling l G rg _ _ 1 hss (by omega)) ⟨Nat.le_of_ble_eq_true rfl, Nat.le_of_ble_eq_true rfl⟩ (so1) rfl rfl (Nat.le_of_ble_eq_true rfl) ⟨Nat.zero_le _, Nat.zero_le _⟩ dX6_under_57 (fun r_57 I_57 L_57 p_57 => ?_)
              obtain ⟨rfl, rfl, e1, e2, e3, e4, e5⟩ := p_57
              rw [unQ_1 hres] at hur hus
              refine j_iret C hr dX6_under_60 ⟨hur.symm, ?_⟩
              rw [hus]
              exact RC_told hRC (fun k hk => by rw [e1 0 (by omega) (by omega), hMF.1 0 (by omega) (by omega)]; exact i2 k hk) (by rw [e1 0 (by omega) (by omega), hMF.1 0 (by omega) (by omega)]; exact i3) (fun q hq => by rw [e1 _ (by omega) (by omega), hMF.1 _ (by omega) (by omega), i1 _ (by omega) (by omega)]) (tl_all e3 (by rw [e4]; exact hRel.2.1) ((e2 2 (by omega)).trans ((m4 2 (by omega)).trans (i4 2 (by omega)))) ((e2 3 (by omega)).trans ((m4 3 (by omega)).trans (i4 3 (by omega)))) ((e2 4 (by omega)).trans mp) ((e2 5 (by omega)).trans mq) ((e2 6 (by omega)).trans m6)) e5 ((congrArg (fun f => (f 0, f 1)) (hMF.2 192 (by omega) (by omega))).trans rx0) (fun Y hY => by cases hY) (fun _ => ⟨hRel.cong (by omega) (by rw [e1 _ (by omega) (by omega)]) (by rw [e1 _ (by omega) (by omega)]) (fun _ _ => rfl) (e1 _ (by omega) (by omega)) (fun s _ => by rw [e1 _ (by omega) (by omega)]) (fun _ _ _ => rfl), hM⟩)
          · have rN2 : I_49 0 10 = nI (aN A) := by rw [hMF.1 0 (by omega) (by omega)]; exact rN1
            refine j_if_eq (tgt := 61) C dX6_under_52 (by decide) (fun h_52 => ?_) (fun h_52 => ?_)
            · refine j_aload_n C dX6_under_61 rfl rfl ?_
              refine j_aload_n C dX6_under_62 rfl rfl ?_
              refine g_getR C (by assumption) fl_X6_11 (by rfl) dX6_under_63 ?_
              refine j_iload_n C dX6_under_66 rfl rfl ?_
              refine t_i hx ?_
              refine g_aald5 C (so2) (by omega) (by decide) (by rfl) (by omega) dX6_under_67 ?_
              refine j_aload_n C dX6_under_68 rfl rfl ?_
              refine g_getR C (by assumption) fl_X6_11 (by rfl) dX6_under_69 ?_
              refine j_iload_n C dX6_under_72 rfl rfl ?_
              refine t_i hy ?_
              refine g_aald5 C (so2) (by omega) (by decide) (by rfl) (by omega) dX6_under_73 ?_
              refine g_cvI C vc_X6_144 (c_X6_wholePointFound l G rg _ _ (aN A) g cn (aV A g) (aV A cn) hss (by omega) (by omega) (fun q hq => by rw [hMF.1 _ (by omega) (by omega)]; exact rVg q hq) (fun q hq => by rw [hMF.1 _ (by omega) (by omega)]; exact rVc q hq) rN2 (by omega)) ⟨Nat.le_of_ble_eq_true rfl, Nat.le_of_ble_eq_true rfl⟩ (so1) rfl rfl (Nat.le_of_ble_eq_true rfl) ⟨Nat.zero_le _, Nat.zero_le _⟩ dX6_under_74 (fun r_74 I_74 L_74 p_74 => ?_)
              obtain ⟨rfl, g6, ⟨rfl, t0, hw, hP⟩ | ⟨rfl, hw⟩⟩ := p_74
              · refine j_if_eq (tgt := 86) C dX6_under_77 (by decide) (fun h_77 => ?_) (fun h_77 => ?_)
                · exact absurd h_77 (by decide)
                · refine j_aload_n C dX6_under_80 rfl rfl ?_
                  refine j_iconst (v := nI 0) C dX6_under_81 (by decide) ?_
                  refine g_cvI C vc_X6_136 (c_X6_endTelling l G rg _ _ 0 hss (by omega)) ⟨Nat.le_of_ble_eq_true rfl, Nat.le_of_ble_eq_true rfl⟩ (so1) rfl rfl (Nat.le_of_ble_eq_true rfl) ⟨Nat.zero_le _, Nat.zero_le _⟩ dX6_under_82 (fun r_82 I_82 L_82 p_82 => ?_)
                  obtain ⟨rfl, rfl, e1, e2, e3, e4, e5⟩ := p_82
                  rw [unQ_2 hres hw] at hur hus
                  refine j_iret C hr dX6_under_85 ⟨hur.symm, ?_⟩
                  rw [hus]
                  exact RC_told hRC (fun k hk => by rw [e1 0 (by omega) (by omega), hMF.1 0 (by omega) (by omega)]; exact i2 k hk) (by rw [e1 0 (by omega) (by omega), hMF.1 0 (by omega) (by omega)]; exact i3) (fun q hq => by rw [e1 _ (by omega) (by omega), hMF.1 _ (by omega) (by omega), i1 _ (by omega) (by omega)]) (tl_all e3 (by rw [e4]; rfl) ((e2 2 (by omega)).trans ((m4 2 (by omega)).trans (i4 2 (by omega)))) ((e2 3 (by omega)).trans ((m4 3 (by omega)).trans (i4 3 (by omega)))) ((e2 4 (by omega)).trans (mp.trans (i4 4 (by omega)))) ((e2 5 (by omega)).trans (mq.trans (i4 5 (by omega)))) ((e2 6 (by omega)).trans m6)) e5 ((congrArg (fun f => (f 0, f 1)) (g6 192 (by omega) (by omega))).trans ((congrArg (fun f => (f 0, f 1)) (hMF.2 192 (by omega) (by omega))).trans rx0)) (fun Y hY k k1 k2 => by cases hY; exact hP k k1 k2) (fun z => absurd (show nI 0 = 1 from z) (by decide))
              · refine j_if_eq (tgt := 86) C dX6_under_77 (by decide) (fun h_77 => ?_) (fun h_77 => ?_)
                · refine j_aload_n C dX6_under_86 rfl rfl ?_
                  refine j_iconst (v := nI 2) C dX6_under_87 (by decide) ?_
                  refine g_cvI C vc_X6_136 (c_X6_endTelling l G rg _ _ 2 hss (by omega)) ⟨Nat.le_of_ble_eq_true rfl, Nat.le_of_ble_eq_true rfl⟩ (so1) rfl rfl (Nat.le_of_ble_eq_true rfl) ⟨Nat.zero_le _, Nat.zero_le _⟩ dX6_under_88 (fun r_88 I_88 L_88 p_88 => ?_)
                  obtain ⟨rfl, rfl, e1, e2, e3, e4, e5⟩ := p_88
                  rw [unQ_3 hres hw] at hur hus
                  refine j_iret C hr dX6_under_91 ⟨hur.symm, ?_⟩
                  rw [hus]
                  exact RC_told hRC (fun k hk => by rw [e1 0 (by omega) (by omega), hMF.1 0 (by omega) (by omega)]; exact i2 k hk) (by rw [e1 0 (by omega) (by omega), hMF.1 0 (by omega) (by omega)]; exact i3) (fun q hq => by rw [e1 _ (by omega) (by omega), hMF.1 _ (by omega) (by omega), i1 _ (by omega) (by omega)]) (tl_all e3 (by rw [e4]; rfl) ((e2 2 (by omega)).trans ((m4 2 (by omega)).trans (i4 2 (by omega)))) ((e2 3 (by omega)).trans ((m4 3 (by omega)).trans (i4 3 (by omega)))) ((e2 4 (by omega)).trans (mp.trans (i4 4 (by omega)))) ((e2 5 (by omega)).trans (mq.trans (i4 5 (by omega)))) ((e2 6 (by omega)).trans m6)) e5 ((congrArg (fun f => (f 0, f 1)) (g6 192 (by omega) (by omega))).trans ((congrArg (fun f => (f 0, f 1)) (hMF.2 192 (by omega) (by omega))).trans rx0)) (fun Y hY => by cases hY) (fun z => absurd (show nI 2 = 1 from z) (by decide))
                · exact absurd rfl h_77
            · exact absurd rfl h_52
        · refine j_iconst (v := (-1)) C dX6_under_27 (by decide) ?_
          exact j_iret C hr dX6_under_28 (by have hb : ¬ unOk A x y z := (by first | exact ub1 h_5 | exact ub2 h_13 | exact ub3 h_18 | exact ub4 h_24); unfold underR underS; rw [cif_f hb, cif_f hb]; exact ⟨rfl, hRC⟩)

set_option maxHeartbeats 4000000 in
set_option maxRecDepth 20000 in
theorem c_X6_expand (l : Launch) (G : GT) (rg : RgT) (I : II) (L : LL) (A : AS) (i j : Nat) (hss : isSS rg) (hRC : RC A I L) (hok : aok A) (h01 : aT A 0 = 1) (hi : i < 5) (hj : j < 5) : CtI l yX6_expand cX6_expand 6 (some FieldType.boolean) 5 G rg I L [.ref (gB G + 0), .int (nI i), .int (nI j)] (fun r I1 L1 => I = I1 ∧ Fm 200 202 L L1 ∧ ((r = b2i true ∧ ∃ z, exO (aE A) i j (eS (aE A)) (0, 1) = some z ∧ fr L1 200 = z) ∨ (r = b2i false ∧ exO (aE A) i j (eS (aE A)) (0, 1) = none))) := by
  refine ctI_of [some (.ref (gB G + 0)), some (.int (nI i)), some (.int (nI j)), none, none, none] rfl (Nat.le_of_ble_eq_true rfl) (by decide) ?_
  intro p e s m args below meth c C hr
  obtain ⟨so1, so2, so3, so4, so5, so6, so7, so8, so9, so10, so11, so12⟩ := id hss
  obtain ⟨rN, rF, rP, rV, rT, rX, rx0, rXv, rE⟩ := id hRC
  obtain ⟨kN, kN4, kF, kT, kT0, kP⟩ := id hok
  obtain ⟨hRel, hM1⟩ := rE h01
  obtain ⟨hN, hS, hS5, hM, hLf, hSq⟩ := id hRel
  obtain ⟨-, -, kT1, kT5⟩ := kT h01
  obtain ⟨eo1, eo2, eo3, eo4, eo5, eo6, eo7, eo8, eo9⟩ := id so6
  have lp : ∀ (fuel : Nat) (s0 : Nat) (L1 : LL) (acc : Fr), eS (aE A) < fuel + s0 → s0 ≤ eS (aE A) → Fm 200 202 L L1 → fr L1 200 = acc → exO (aE A) i j (eS (aE A) - s0) acc = exO (aE A) i j (eS (aE A)) (0, 1) → J p l e (rmD 5) s m args below meth c (MQ below (QI G rg (fun r I1 L1 => I = I1 ∧ Fm 200 202 L L1 ∧ ((r = b2i true ∧ ∃ z, exO (aE A) i j (eS (aE A)) (0, 1) = some z ∧ fr L1 200 = z) ∨ (r = b2i false ∧ exO (aE A) i j (eS (aE A)) (0, 1) = none)))) args s 0 0 (rg_A G rg)) 6 G rg 0 0 I L1 12 [some (.ref (gB G + 0)), some (.int (nI i)), some (.int (nI j)), some (.int (nI s0)), none, none] [] := by
    intro fuel
    induction fuel with
    | zero => intro s0 L1 acc h1 h2 hG1 hA1 he; exfalso; omega
    | succ fuel ih_lp =>
      intro s0 L1 acc h1 h2 hG1 hA1 he
      refine j_iload_n C dX6_expand_12 rfl rfl ?_
      refine j_aload_n C dX6_expand_13 rfl rfl ?_
      refine g_getR C (by assumption) fl_X6_15 (by rfl) dX6_expand_14 ?_
      refine j_iconst (v := nI 1) C dX6_expand_17 (by decide) ?_
      refine g_iald C (so3) (by omega) (by decide) dX6_expand_18 ?_
      refine t_i ((rT 1 (by omega)).trans kT1) ?_
      first | refine n_icmp_ge (tgt := 114) C (by omega) (by omega) dX6_expand_19 (by decide) (fun h_19 => ?_) (fun h_19 => ?_) | refine j_icmp_ge (tgt := 114) C dX6_expand_19 (by decide) (fun h_19 => ?_) (fun h_19 => ?_)
      · refine j_iconst (v := nI 1) C dX6_expand_114 (by decide) ?_
        exact j_zret C hr (by first | rfl | exact b2i_n _ rfl) dX6_expand_115 (⟨rfl, hG1, Or.inl ⟨rfl, acc, by rw [← he, show eS (aE A) - s0 = 0 by omega]; rfl, hA1⟩⟩)
      · obtain ⟨hp1, hp2, hp3, hp4⟩ := hSq s0 h_19
        have hsqr := eo9 s0 (by omega)
        refine j_aload_n C dX6_expand_22 rfl rfl ?_
        refine g_getR C (by assumption) fl_X6_33 (by rfl) dX6_expand_23 ?_
        refine g_getR C (eo1) fl_X6_154 (by rfl) dX6_expand_26 ?_
        refine j_iload_n C dX6_expand_29 rfl rfl ?_
        refine g_aald4 C (eo4) (by omega) (by decide) (by rfl) (by omega) dX6_expand_30 ?_
        refine j_astore C dX6_expand_31 (by decide) ?_
        refine j_aload_n C dX6_expand_33 rfl rfl ?_
        refine g_getR C (by assumption) fl_X6_57 (by rfl) dX6_expand_34 ?_
        refine j_aload C dX6_expand_37 rfl ?_
        refine g_getR C (hsqr.1) fl_X6_158 (by rfl) dX6_expand_39 ?_
        refine j_aload C dX6_expand_42 rfl ?_
        refine g_getR C (hsqr.1) fl_X6_167 (by rfl) dX6_expand_44 ?_
        refine j_iload_n C dX6_expand_47 rfl rfl ?_
        refine g_aald3 C (hsqr.2.2.1) (by omega) (by decide) (by rfl) (by omega) dX6_expand_48 ?_
        have hFi : isF rg ((32 + 39 + 8 * s0) + 3 + i) := hsqr.2.2.2 i hi
        have hFj : isF rg ((32 + 39 + 8 * s0) + 3 + j) := hsqr.2.2.2 j hj
        have eW0 : fr L1 ((32 + 39 + 8 * s0) + 1) = eW (aE A) s0 := (hG1.fr (by omega)).trans (by rw [← hp3]; congr 1; omega)
        have eNi : fr L1 ((32 + 39 + 8 * s0) + 3 + i) = eN (aE A) s0 i := (hG1.fr (by omega)).trans (by rw [← hp4 i hi]; congr 1; omega)
        have eNj : fr L1 ((32 + 39 + 8 * s0) + 3 + j) = eN (aE A) s0 j := (hG1.fr (by omega)).trans (by rw [← hp4 j hj]; congr 1; omega)
        refine g_cvI C vc_X6_238 (c_X2_product l G rg _ _ _ _ _ so11 hsqr.2.1 hFi) ⟨Nat.le_of_ble_eq_true rfl, Nat.le_of_ble_eq_true rfl⟩ (so11) rfl rfl (Nat.le_of_ble_eq_true rfl) ⟨Nat.zero_le _, Nat.zero_le _⟩ dX6_expand_49 (fun r_49 I_49 L_49 p_49 => ?_)
        rw [eW0, eNi] at p_49
        obtain ⟨rfl, ⟨z_49, hz_49, rfl, rfl⟩ | ⟨hz_49, rfl, rfl⟩⟩ := p_49
        · refine j_if_eq (tgt := 98) C dX6_expand_52 (by decide) (fun h_52 => ?_) (fun h_52 => ?_)
          · exact absurd h_52 (by decide)
          · refine j_aload_n C dX6_expand_55 rfl rfl ?_
            refine g_getR C (by assumption) fl_X6_57 (by rfl) dX6_expand_56 ?_
            refine j_aload_n C dX6_expand_59 rfl rfl ?_
            refine g_getR C (by assumption) fl_X6_57 (by rfl) dX6_expand_60 ?_
            refine j_aload C dX6_expand_63 rfl ?_
            refine g_getR C (hsqr.1) fl_X6_167 (by rfl) dX6_expand_65 ?_
            refine j_iload_n C dX6_expand_68 rfl rfl ?_
            refine g_aald3 C (hsqr.2.2.1) (by omega) (by decide) (by rfl) (by omega) dX6_expand_69 ?_
            refine g_cvI C vc_X6_238 (c_X2_product l G rg _ _ _ _ _ so11 so11 hFj) ⟨Nat.le_of_ble_eq_true rfl, Nat.le_of_ble_eq_true rfl⟩ (so11) rfl rfl (Nat.le_of_ble_eq_true rfl) ⟨Nat.zero_le _, Nat.zero_le _⟩ dX6_expand_70 (fun r_70 I_70 L_70 p_70 => ?_)
            rw [fr_setF, if_pos rfl, fr_setF, if_neg (by omega), eNj] at p_70
            obtain ⟨rfl, ⟨z_70, hz_70, rfl, rfl⟩ | ⟨hz_70, rfl, rfl⟩⟩ := p_70
            · have hit : itO (aE A) s0 i j = some z_70 := by unfold itO; rw [hz_49]; exact hz_70
              refine j_if_eq (tgt := 98) C dX6_expand_73 (by decide) (fun h_73 => ?_) (fun h_73 => ?_)
              · exact absurd h_73 (by decide)
              · refine j_aload_n C dX6_expand_76 rfl rfl ?_
                refine g_getR C (by assumption) fl_X6_54 (by rfl) dX6_expand_77 ?_
                refine j_aload_n C dX6_expand_80 rfl rfl ?_
                refine g_getR C (by assumption) fl_X6_54 (by rfl) dX6_expand_81 ?_
                refine j_aload_n C dX6_expand_84 rfl rfl ?_
                refine g_getR C (by assumption) fl_X6_57 (by rfl) dX6_expand_85 ?_
                refine g_cvI C vc_X6_242 (c_X2_sum l G rg _ _ _ _ _ so10 so10 so11) ⟨Nat.le_of_ble_eq_true rfl, Nat.le_of_ble_eq_true rfl⟩ (so10) rfl rfl (Nat.le_of_ble_eq_true rfl) ⟨Nat.zero_le _, Nat.zero_le _⟩ dX6_expand_88 (fun r_88 I_88 L_88 p_88 => ?_)
                rw [fr_setF, if_neg (by omega), fr_setF, if_neg (by omega), fr_setF, if_pos rfl, hA1] at p_88
                obtain ⟨rfl, ⟨z_88, hz_88, rfl, rfl⟩ | ⟨hz_88, rfl, rfl⟩⟩ := p_88
                · refine j_if_eq (tgt := 98) C dX6_expand_91 (by decide) (fun h_91 => ?_) (fun h_91 => ?_)
                  · exact absurd h_91 (by decide)
                  · refine j_iconst (v := nI 1) C dX6_expand_94 (by decide) ?_
                    refine j_goto (tgt := 99) C dX6_expand_95 (by decide) ?_
                    refine j_istore C dX6_expand_99 (by decide) ?_
                    refine j_iload C dX6_expand_101 rfl ?_
                    refine j_if_ne (tgt := 108) C dX6_expand_103 (by decide) (fun h_103 => ?_) (fun h_103 => ?_)
                    · first | refine n_iinc (n := 1) C dX6_expand_108 rfl (by decide) ?_ | refine j_iinc C dX6_expand_108 rfl rfl (by decide) ?_
                      refine j_goto (tgt := 12) C dX6_expand_111 (by decide) ?_
                      refine j_rm 4 ?_
                      refine j_rm 5 ?_
                      exact ih_lp (s0 + 1) _ z_88 (by omega) (by omega) (((hG1.set (by omega) (by omega)).set (by omega) (by omega)).set (by omega) (by omega)) (by rw [fr_setF, if_pos rfl]) (by rw [← he]; exact (exO_s h_19 hit hz_88).symm)
                    · exact absurd h_103 (by decide)
                · have hbad : exO (aE A) i j (eS (aE A) - s0) acc = none := exO_n2 h_19 hit hz_88
                  refine j_if_eq (tgt := 98) C dX6_expand_91 (by decide) (fun h_91 => ?_) (fun h_91 => ?_)
                  · refine j_iconst (v := nI 0) C dX6_expand_98 (by decide) ?_
                    refine j_istore C dX6_expand_99 (by decide) ?_
                    refine j_iload C dX6_expand_101 rfl ?_
                    refine j_if_ne (tgt := 108) C dX6_expand_103 (by decide) (fun h_103 => ?_) (fun h_103 => ?_)
                    · exact absurd rfl h_103
                    · refine j_iconst (v := nI 0) C dX6_expand_106 (by decide) ?_
                      exact j_zret C hr (by first | rfl | exact b2i_n _ rfl) dX6_expand_107 (⟨rfl, by first | exact hG1 | exact hG1.set (by omega) (by omega) | exact (hG1.set (by omega) (by omega)).set (by omega) (by omega), Or.inr ⟨rfl, by rw [← he]; exact hbad⟩⟩)
                  · exact absurd rfl h_91
            · have hbad : exO (aE A) i j (eS (aE A) - s0) acc = none := exO_n1 h_19 (by unfold itO; rw [hz_49]; exact hz_70)
              refine j_if_eq (tgt := 98) C dX6_expand_73 (by decide) (fun h_73 => ?_) (fun h_73 => ?_)
              · refine j_iconst (v := nI 0) C dX6_expand_98 (by decide) ?_
                refine j_istore C dX6_expand_99 (by decide) ?_
                refine j_iload C dX6_expand_101 rfl ?_
                refine j_if_ne (tgt := 108) C dX6_expand_103 (by decide) (fun h_103 => ?_) (fun h_103 => ?_)
                · exact absurd rfl h_103
                · refine j_iconst (v := nI 0) C dX6_expand_106 (by decide) ?_
                  exact j_zret C hr (by first | rfl | exact b2i_n _ rfl) dX6_expand_107 (⟨rfl, by first | exact hG1 | exact hG1.set (by omega) (by omega) | exact (hG1.set (by omega) (by omega)).set (by omega) (by omega), Or.inr ⟨rfl, by rw [← he]; exact hbad⟩⟩)
              · exact absurd rfl h_73
        · have hbad : exO (aE A) i j (eS (aE A) - s0) acc = none := exO_n1 h_19 (by unfold itO; rw [hz_49]; rfl)
          refine j_if_eq (tgt := 98) C dX6_expand_52 (by decide) (fun h_52 => ?_) (fun h_52 => ?_)
          · refine j_iconst (v := nI 0) C dX6_expand_98 (by decide) ?_
            refine j_istore C dX6_expand_99 (by decide) ?_
            refine j_iload C dX6_expand_101 rfl ?_
            refine j_if_ne (tgt := 108) C dX6_expand_103 (by decide) (fun h_103 => ?_) (fun h_103 => ?_)
            · exact absurd rfl h_103
            · refine j_iconst (v := nI 0) C dX6_expand_106 (by decide) ?_
              exact j_zret C hr (by first | rfl | exact b2i_n _ rfl) dX6_expand_107 (⟨rfl, by first | exact hG1 | exact hG1.set (by omega) (by omega) | exact (hG1.set (by omega) (by omega)).set (by omega) (by omega), Or.inr ⟨rfl, by rw [← he]; exact hbad⟩⟩)
          · exact absurd rfl h_52
  refine j_aload_n C dX6_expand_0 rfl rfl ?_
  refine g_getR C (by assumption) fl_X6_54 (by rfl) dX6_expand_1 ?_
  refine j_lconst (v := 0) C dX6_expand_4 (by decide) ?_
  refine j_lconst (v := 1) C dX6_expand_5 (by decide) ?_
  refine g_cvI C vc_X6_184 (c_X2_put l G rg _ _ _ _ _ so10) ⟨Nat.le_of_ble_eq_true rfl, Nat.le_of_ble_eq_true rfl⟩ (so10) rfl rfl (Nat.le_of_ble_eq_true rfl) ⟨Nat.zero_le _, Nat.zero_le _⟩ dX6_expand_6 (fun r_6 I_6 L_6 p_6 => ?_)
  obtain ⟨rfl, rfl, rfl⟩ := Put_some p_6 put_00
  refine j_pop C dX6_expand_9 rfl ?_
  refine j_iconst (v := nI 0) C dX6_expand_10 (by decide) ?_
  refine j_istore_n C dX6_expand_11 rfl (by decide) ?_
  exact lp (eS (aE A) + 1) 0 _ (0, 1) (by omega) (by omega) (Fm.rf.set (by omega) (by omega)) (by rw [fr_setF, if_pos rfl]) (by rw [Nat.sub_zero])

theorem cks_t {sm : Bool} {z m : Fr} (h : sm = true) (h2 : z = m) : true = true ↔ (sm = true ∧ z = m) := ⟨fun _ => ⟨h, h2⟩, fun _ => rfl⟩
theorem cks_f {sm : Bool} {z m : Fr} (h2 : ¬ z = m) : false = true ↔ (sm = true ∧ z = m) := ⟨fun q => absurd q (by decide), fun q => absurd q.2 h2⟩
theorem cks_g {sm : Bool} {z m : Fr} (h : sm = false) : false = true ↔ (sm = true ∧ z = m) := ⟨fun q => absurd q (by decide), fun q => absurd (h.symm.trans q.1) (by decide)⟩
theorem RC_tmp {A : AS} {I : II} {L L1 : LL} (h : RC A I L) (hok : aok A) (hF : Fm 200 202 L L1) : RC A I L1 := h.cong hok rfl (fun _ _ => rfl) rfl rfl (fun _ _ _ => rfl) (fun q q1 q2 => hF.at (by omega)) (fun q q1 q2 => hF.at (by omega)) (fun q q1 q2 => hF.at (by omega))
/-- what check() has seen: all items so far fit; sm tells whether they were the same -/
def CKi (A : AS) (sm : Bool) (i j : Nat) : Prop := (∀ a b, a ≤ aN A → b ≤ aN A → (a < i ∨ (a = i ∧ b < j)) → exO (aE A) a b (eS (aE A)) (0, 1) ≠ none) ∧ (sm = true ↔ ∀ a b, a ≤ aN A → b ≤ aN A → (a < i ∨ (a = i ∧ b < j)) → exO (aE A) a b (eS (aE A)) (0, 1) = some (aM A a b))
theorem CKi_s {A : AS} {sm : Bool} {i j : Nat} {z : Fr} {b2 : Bool} (h : CKi A sm i j) (hi : i ≤ aN A) (hj : j ≤ aN A) (hz : exO (aE A) i j (eS (aE A)) (0, 1) = some z) (hb : b2 = true ↔ (sm = true ∧ z = aM A i j)) : CKi A b2 i (j + 1) := by
  refine ⟨fun a b ha hb2 q => ?_, ?_⟩
  · by_cases e : a = i ∧ b = j
    · rw [e.1, e.2, hz]; exact fun w => by cases w
    · exact h.1 a b ha hb2 (by omega)
  · rw [hb, h.2]
    constructor
    · rintro ⟨h1, h2⟩ a b ha hb2 q
      by_cases e : a = i ∧ b = j
      · rw [e.1, e.2, hz, h2]
      · exact h1 a b ha hb2 (by omega)
    · intro h1
      refine ⟨fun a b ha hb2 q => h1 a b ha hb2 (by omega), ?_⟩
      have := h1 i j hi hj (by omega)
      rw [hz] at this
      exact Option.some.inj this
theorem CKi_n {A : AS} {sm : Bool} {i j : Nat} (h : CKi A sm i j) (hj : aN A < j) : CKi A sm (i + 1) 0 := ⟨fun a b ha hb q => h.1 a b ha hb (by omega), ⟨fun e a b ha hb q => (h.2.mp e) a b ha hb (by omega), fun e => h.2.mpr (fun a b ha hb q => e a b ha hb (by omega))⟩⟩
theorem CKi_e {A : AS} {sm : Bool} {i : Nat} (h : CKi A sm i 0) (hi : aN A < i) : ¬ ckLong A ∧ (sm = true ↔ ckSame A) := ⟨fun ⟨a, b, ha, hb, q⟩ => h.1 a b ha hb (by omega) q, ⟨fun e a b ha hb => (h.2.mp e) a b ha hb (by omega), fun e => h.2.mpr (fun a b ha hb q => e a b ha hb)⟩⟩
set_option maxHeartbeats 4000000 in
set_option maxRecDepth 20000 in
theorem c_X6_check (l : Launch) (G : GT) (rg : RgT) (I : II) (L : LL) (A : AS) (hss : isSS rg) (hRC : RC A I L) (hok : aok A) : CtI l yX6_check cX6_check 4 (some FieldType.int) 8 G rg I L [.ref (gB G + 0)] (fun r I1 L1 => r = checkR A ∧ RC A I1 L1) := by
  refine ctI_of [some (.ref (gB G + 0)), none, none, none] rfl (Nat.le_of_ble_eq_true rfl) (by decide) ?_
  intro p e s m args below meth c C hr
  obtain ⟨so1, so2, so3, so4, so5, so6, so7, so8, so9, so10, so11, so12⟩ := id hss
  obtain ⟨rN, rF, rP, rV, rT, rX, rx0, rXv, rE⟩ := id hRC
  obtain ⟨kN, kN4, kF, kT, kT0, kP⟩ := id hok
  refine j_aload_n C dX6_check_0 rfl rfl ?_
  refine g_cvI C vc_X6_188 (c_X6_isProved l G rg _ _ A hss hRC hok) ⟨Nat.le_of_ble_eq_true rfl, Nat.le_of_ble_eq_true rfl⟩ (by assumption) rfl rfl (Nat.le_of_ble_eq_true rfl) ⟨Nat.zero_le _, Nat.zero_le _⟩ dX6_check_1 (fun r_1 I_1 L_1 p_1 => ?_)
  obtain ⟨rfl, rfl, rfl⟩ := p_1
  first | refine n_if_ne (tgt := 10) C dX6_check_4 (by decide) (fun h_4 => ?_) (fun h_4 => ?_) | refine j_if_ne (tgt := 10) C dX6_check_4 (by decide) (fun h_4 => ?_) (fun h_4 => ?_)
  · refine j_iconst (v := nI 1) C dX6_check_10 (by decide) ?_
    refine j_istore_n C dX6_check_11 rfl (by decide) ?_
    refine j_iconst (v := nI 0) C dX6_check_12 (by decide) ?_
    refine j_istore_n C dX6_check_13 rfl (by decide) ?_
    have h01 : aT A 0 = 1 := of_decide_eq_true h_4
    have lp : ∀ (fuel : Nat) (i : Nat) (sm : Bool) (L1 : LL), aN A + 1 < fuel + i → i ≤ aN A + 1 → RC A I L1 → CKi A sm i 0 → J p l e (rmD 8) s m args below meth c (MQ below (QI G rg (fun r I1 L1 => r = checkR A ∧ RC A I1 L1)) args s 0 0 (rg_A G rg)) 4 G rg 0 0 I L1 14 [some (.ref (gB G + 0)), some (.int (b2i sm)), some (.int (nI i)), none] [] := by
      intro fuel
      induction fuel with
      | zero => intro i sm L1 h1 h2 hRC1 hCK; exfalso; omega
      | succ fuel ih_lp =>
        intro i sm L1 h1 h2 hRC1 hCK
        refine j_iload_n C dX6_check_14 rfl rfl ?_
        refine j_aload_n C dX6_check_15 rfl rfl ?_
        refine g_getI C (by assumption) fl_X6_60 (by rfl) dX6_check_16 ?_
        refine t_i rN ?_
        first | refine n_icmp_gt (tgt := 84) C (by omega) (by omega) dX6_check_19 (by decide) (fun h_19 => ?_) (fun h_19 => ?_) | refine j_icmp_gt (tgt := 84) C dX6_check_19 (by decide) (fun h_19 => ?_) (fun h_19 => ?_)
        · refine j_iload_n C dX6_check_84 rfl rfl ?_
          first | refine n_if_eq (tgt := 92) C dX6_check_85 (by decide) (fun h_85 => ?_) (fun h_85 => ?_) | refine j_if_eq (tgt := 92) C dX6_check_85 (by decide) (fun h_85 => ?_) (fun h_85 => ?_)
          · refine j_iconst (v := nI 0) C dX6_check_92 (by decide) ?_
            exact j_iret C hr dX6_check_93 (⟨by have hce := CKi_e hCK (by omega); unfold checkR; rw [if_pos h01, cif_f hce.1]; first | (rw [cif_t (hce.2.mp h_85)]; rfl) | (rw [cif_f (fun w => by rw [hce.2.mpr w] at h_85; cases h_85)]; rfl), hRC1⟩)
          · refine j_iconst (v := nI 1) C dX6_check_88 (by decide) ?_
            refine j_goto (tgt := 93) C dX6_check_89 (by decide) ?_
            exact j_iret C hr dX6_check_93 (⟨by have hce := CKi_e hCK (by omega); unfold checkR; rw [if_pos h01, cif_f hce.1]; first | (rw [cif_t (hce.2.mp h_85)]; rfl) | (rw [cif_f (fun w => by rw [hce.2.mpr w] at h_85; cases h_85)]; rfl), hRC1⟩)
        · refine j_iconst (v := nI 0) C dX6_check_22 (by decide) ?_
          refine j_istore_n C dX6_check_23 rfl (by decide) ?_
          have lq : ∀ (fuel : Nat) (j : Nat) (sm : Bool) (L1 : LL), aN A + 1 < fuel + j → j ≤ aN A + 1 → RC A I L1 → CKi A sm i j → J p l e (rmD 8) s m args below meth c (MQ below (QI G rg (fun r I1 L1 => r = checkR A ∧ RC A I1 L1)) args s 0 0 (rg_A G rg)) 4 G rg 0 0 I L1 24 [some (.ref (gB G + 0)), some (.int (b2i sm)), some (.int (nI i)), some (.int (nI j))] [] := by
            intro fuel
            induction fuel with
            | zero => intro j sm L1 q1 q2 hRC1 hCK; exfalso; omega
            | succ fuel ih_lq =>
              intro j sm L1 q1 q2 hRC1 hCK
              refine j_iload_n C dX6_check_24 rfl rfl ?_
              refine j_aload_n C dX6_check_25 rfl rfl ?_
              refine g_getI C (by assumption) fl_X6_60 (by rfl) dX6_check_26 ?_
              refine t_i rN ?_
              first | refine n_icmp_gt (tgt := 78) C (by omega) (by omega) dX6_check_29 (by decide) (fun h_29 => ?_) (fun h_29 => ?_) | refine j_icmp_gt (tgt := 78) C dX6_check_29 (by decide) (fun h_29 => ?_) (fun h_29 => ?_)
              · first | refine n_iinc (n := 1) C dX6_check_78 rfl (by decide) ?_ | refine j_iinc C dX6_check_78 rfl rfl (by decide) ?_
                refine j_goto (tgt := 14) C dX6_check_81 (by decide) ?_
                refine j_rm 3 ?_
                exact ih_lp (i + 1) sm L1 (by omega) (by omega) hRC1 (CKi_n hCK (by omega))
              · refine j_aload_n C dX6_check_32 rfl rfl ?_
                refine j_iload_n C dX6_check_33 rfl rfl ?_
                refine j_iload_n C dX6_check_34 rfl rfl ?_
                refine g_cvI C vc_X6_191 (c_X6_expand l G rg _ _ A i j hss hRC1 hok h01 (by omega) (by omega)) ⟨Nat.le_of_ble_eq_true rfl, Nat.le_of_ble_eq_true rfl⟩ (so1) rfl rfl (Nat.le_of_ble_eq_true rfl) ⟨Nat.zero_le _, Nat.zero_le _⟩ dX6_check_35 (fun r_35 I_35 L_35 p_35 => ?_)
                obtain ⟨rfl, hG35, ⟨rfl, z, hz, hz8⟩ | ⟨rfl, hz⟩⟩ := p_35
                · have hRC2 := RC_tmp hRC1 hok hG35
                  refine j_if_ne (tgt := 43) C dX6_check_38 (by decide) (fun h_38 => ?_) (fun h_38 => ?_)
                  · refine j_iload_n C dX6_check_43 rfl rfl ?_
                    first | refine n_if_eq (tgt := 70) C dX6_check_44 (by decide) (fun h_44 => ?_) (fun h_44 => ?_) | refine j_if_eq (tgt := 70) C dX6_check_44 (by decide) (fun h_44 => ?_) (fun h_44 => ?_)
                    · refine j_iconst (v := nI 0) C dX6_check_70 (by decide) ?_
                      refine j_istore_n C dX6_check_71 rfl (by decide) ?_
                      first | refine n_iinc (n := 1) C dX6_check_72 rfl (by decide) ?_ | refine j_iinc C dX6_check_72 rfl rfl (by decide) ?_
                      refine j_goto (tgt := 24) C dX6_check_75 (by decide) ?_
                      first
                      | exact ih_lq (j + 1) true _ (by omega) (by omega) hRC2 (CKi_s hCK (by omega) (by omega) hz (cks_t h_44 hsame))
                      | exact ih_lq (j + 1) false _ (by omega) (by omega) hRC2 (CKi_s hCK (by omega) (by omega) hz (cks_g h_44))
                      | exact ih_lq (j + 1) false _ (by omega) (by omega) hRC2 (CKi_s hCK (by omega) (by omega) hz (cks_f hsame))
                    · refine j_aload_n C dX6_check_47 rfl rfl ?_
                      refine g_getR C (by assumption) fl_X6_54 (by rfl) dX6_check_48 ?_
                      refine j_aload_n C dX6_check_51 rfl rfl ?_
                      refine g_getR C (by assumption) fl_X6_26 (by rfl) dX6_check_52 ?_
                      refine j_iload_n C dX6_check_55 rfl rfl ?_
                      refine j_iload_n C dX6_check_56 rfl rfl ?_
                      refine g_cvR C vc_X6_195 (c_X3_at l G rg _ _ _ _ _ so5 (by omega) (by omega)) ⟨Nat.le_of_ble_eq_true rfl, Nat.le_of_ble_eq_true rfl⟩ (so5.1) rfl rfl (Nat.le_of_ble_eq_true rfl) ⟨Nat.zero_le _, Nat.zero_le _⟩ dX6_check_57 (fun r_57 I_57 L_57 p_57 => ?_)
                      obtain ⟨rfl, rfl, rfl⟩ := p_57
                      have hFx : isF rg (4 + 2 + (i * 5 + j)) := so5.2.2 _ (by omega)
                      have hMe : fr L_35 (4 + 2 + (i * 5 + j)) = aM A i j := (hRC2.2.2.2.2.2.2.2.2 h01).2 i j (by omega) (by omega)
                      refine g_cvI C vc_X6_199 (c_X2_isSame l G rg _ _ _ _ so10 hFx) ⟨Nat.le_of_ble_eq_true rfl, Nat.le_of_ble_eq_true rfl⟩ (so10) rfl rfl (Nat.le_of_ble_eq_true rfl) ⟨Nat.zero_le _, Nat.zero_le _⟩ dX6_check_60 (fun r_60 I_60 L_60 p_60 => ?_)
                      rw [hz8, hMe] at p_60
                      obtain ⟨hr60, rfl, rfl⟩ := p_60
                      by_cases hsame : z = aM A i j
                      · rw [decide_eq_true hsame] at hr60
                        subst hr60
                        refine j_if_eq (tgt := 70) C dX6_check_63 (by decide) (fun h_63 => ?_) (fun h_63 => ?_)
                        · exact absurd h_63 (by decide)
                        · refine j_iconst (v := nI 1) C dX6_check_66 (by decide) ?_
                          refine j_goto (tgt := 71) C dX6_check_67 (by decide) ?_
                          refine j_istore_n C dX6_check_71 rfl (by decide) ?_
                          first | refine n_iinc (n := 1) C dX6_check_72 rfl (by decide) ?_ | refine j_iinc C dX6_check_72 rfl rfl (by decide) ?_
                          refine j_goto (tgt := 24) C dX6_check_75 (by decide) ?_
                          first
                          | exact ih_lq (j + 1) true _ (by omega) (by omega) hRC2 (CKi_s hCK (by omega) (by omega) hz (cks_t h_44 hsame))
                          | exact ih_lq (j + 1) false _ (by omega) (by omega) hRC2 (CKi_s hCK (by omega) (by omega) hz (cks_g h_44))
                          | exact ih_lq (j + 1) false _ (by omega) (by omega) hRC2 (CKi_s hCK (by omega) (by omega) hz (cks_f hsame))
                      · rw [decide_eq_false hsame] at hr60
                        subst hr60
                        refine j_if_eq (tgt := 70) C dX6_check_63 (by decide) (fun h_63 => ?_) (fun h_63 => ?_)
                        · refine j_iconst (v := nI 0) C dX6_check_70 (by decide) ?_
                          refine j_istore_n C dX6_check_71 rfl (by decide) ?_
                          first | refine n_iinc (n := 1) C dX6_check_72 rfl (by decide) ?_ | refine j_iinc C dX6_check_72 rfl rfl (by decide) ?_
                          refine j_goto (tgt := 24) C dX6_check_75 (by decide) ?_
                          first
                          | exact ih_lq (j + 1) true _ (by omega) (by omega) hRC2 (CKi_s hCK (by omega) (by omega) hz (cks_t h_44 hsame))
                          | exact ih_lq (j + 1) false _ (by omega) (by omega) hRC2 (CKi_s hCK (by omega) (by omega) hz (cks_g h_44))
                          | exact ih_lq (j + 1) false _ (by omega) (by omega) hRC2 (CKi_s hCK (by omega) (by omega) hz (cks_f hsame))
                        · exact absurd rfl h_63
                  · exact absurd h_38 (by decide)
                · refine j_if_ne (tgt := 43) C dX6_check_38 (by decide) (fun h_38 => ?_) (fun h_38 => ?_)
                  · exact absurd rfl h_38
                  · refine j_iconst (v := nI 2) C dX6_check_41 (by decide) ?_
                    exact j_iret C hr dX6_check_42 (⟨by unfold checkR; rw [if_pos h01, cif_t ⟨i, j, by omega, by omega, hz⟩]; rfl, RC_tmp hRC1 hok hG35⟩)
          exact lq (aN A + 2) 0 sm L1 (by omega) (by omega) hRC1 hCK
    exact lp (aN A + 2) 0 true L (by omega) (by omega) hRC ⟨fun a b _ _ q => by omega, ⟨fun _ a b _ _ q => by omega, fun _ => rfl⟩⟩
  · refine j_bipush (v := (-2)) C dX6_check_7 (by decide) ?_
    exact j_iret C hr dX6_check_9 (⟨by unfold checkR; rw [if_neg (of_decide_eq_false h_4)], hRC⟩)

theorem PR_z {n : Nat} {V X : Nat → Fr} (h0 : V 0 = (1, 1)) (hW : ∀ k, k ≤ n → WF (V k)) (hq : quoX n V = some X) : ∀ k, 1 ≤ k → k ≤ n → X k = V k := by
  intro k k1 k2
  unfold quoX at hq
  by_cases hc : ∀ k, 1 ≤ k → k ≤ n → fDiv (V k) (V 0) ≠ none
  · rw [cif_t hc] at hq
    cases hq
    show (if k = 0 then (1, 1) else (fDiv (V k) (V 0)).getD (0, 1)) = V k
    rw [if_neg (by omega), h0, fDiv_1 (hW k k2)]; rfl
  · rw [cif_f hc] at hq; cases hq
theorem quo_z {n : Nat} {V : Nat → Fr} (h0 : V 0 = (1, 1)) (hW : ∀ k, k ≤ n → WF (V k)) : quoX n V ≠ none := by
  unfold quoX
  rw [cif_t]
  · exact fun q => by cases q
  · intro k k1 k2 q
    rw [h0, fDiv_1 (hW k k2)] at q; cases q
/-- the pivots' numbers leave what is not a pivot alone -/
theorem gbO_keep {n : Nat} {E : ES} {j : Nat} : ∀ {s : Nat} {V V1 : Nat → Fr}, gbO n E s V = some V1 → (∀ q, q < s → eP E q ≠ j) → V1 j = V j
  | 0, V, V1, h, _ => by cases h; rfl
  | s + 1, V, V1, h, hp => by
    rw [gbO] at h
    cases hs : smO (eT E s) (eN E s) V n (n + 1) (0, 1) with
    | none => rw [hs] at h; cases h
    | some z =>
      rw [hs] at h
      rw [gbO_keep (s := s) h (fun q hq => hp q (by omega)), va_up_ne _ _ (fun e => hp s (by omega) e.symm)]
set_option maxHeartbeats 4000000 in
set_option maxRecDepth 20000 in
theorem c_X6_equal (l : Launch) (G : GT) (rg : RgT) (I : II) (L : LL) (A : AS) (hss : isSS rg) (hRC : RC A I L) (hok : aok A) (hpl : aT A 0 = 1 → eL (aE A) 0 = true → ∀ s, s < eS (aE A) → eP (aE A) s ≠ 0) : CtI l yX6_equal cX6_equal 1 (some FieldType.int) 8 G rg I L [.ref (gB G + 0)] (fun r I1 L1 => r = equalR A ∧ RC (equalS A) I1 L1) := by
  refine ctI_of [some (.ref (gB G + 0))] rfl (Nat.le_of_ble_eq_true rfl) (by decide) ?_
  intro p e s m args below meth c C hr
  obtain ⟨so1, so2, so3, so4, so5, so6, so7, so8, so9, so10, so11, so12⟩ := id hss
  obtain ⟨rN, rF, rP, rV, rT, rX, rx0, rXv, rE⟩ := id hRC
  obtain ⟨kN, kN4, kF, kT, kT0, kP⟩ := id hok
  obtain ⟨po1, po2, po3, po4, po5⟩ := id so8
  obtain ⟨eo1, eo2, eo3, eo4, eo5, eo6, eo7, eo8, eo9⟩ := id so6
  refine j_aload_n C dX6_equal_0 rfl rfl ?_
  refine g_cvI C vc_X6_188 (c_X6_isProved l G rg _ _ A hss hRC hok) ⟨Nat.le_of_ble_eq_true rfl, Nat.le_of_ble_eq_true rfl⟩ (by assumption) rfl rfl (Nat.le_of_ble_eq_true rfl) ⟨Nat.zero_le _, Nat.zero_le _⟩ dX6_equal_1 (fun r_1 I_1 L_1 p_1 => ?_)
  obtain ⟨rfl, rfl, rfl⟩ := p_1
  first | refine n_if_ne (tgt := 10) C dX6_equal_4 (by decide) (fun h_4 => ?_) (fun h_4 => ?_) | refine j_if_ne (tgt := 10) C dX6_equal_4 (by decide) (fun h_4 => ?_) (fun h_4 => ?_)
  · have h01 : aT A 0 = 1 := of_decide_eq_true h_4
    obtain ⟨hRel, hM1⟩ := rE h01
    obtain ⟨hEW, hEI, kT1, kT5⟩ := kT h01
    obtain ⟨I2, hI2⟩ : ∃ I2, I2 = up2 I 190 3 (nI 0) := ⟨_, rfl⟩
    have k0 : ∀ z, z ≠ 190 → I2 z = I z := fun z hz => by rw [hI2, up2_ne _ hz]
    have hRel2 : RelC (aN A) 32 I2 L (aE A) := hRel.cong (by omega) (by rw [k0 _ (by omega)]) (by rw [k0 _ (by omega)]) (fun _ _ => rfl) (k0 _ (by omega)) (fun s _ => by rw [k0 _ (by omega)]) (fun _ _ _ => rfl)
    refine j_aload_n C dX6_equal_10 rfl rfl ?_
    refine g_getR C (by assumption) fl_X6_43 (by rfl) dX6_equal_11 ?_
    refine j_iconst (v := nI 0) C dX6_equal_14 (by decide) ?_
    refine g_putI C (po1) fw_X6_77 (by rfl) rfl (rfl) dX6_equal_15 ?_
    rw [← hI2]
    refine j_aload_n C dX6_equal_18 rfl rfl ?_
    refine g_getR C (by assumption) fl_X6_33 (by rfl) dX6_equal_19 ?_
    refine g_getR C (eo1) fl_X6_203 (by rfl) dX6_equal_22 ?_
    refine j_iconst (v := nI 0) C dX6_equal_25 (by decide) ?_
    refine g_zald C (eo3) (by omega) (by decide) dX6_equal_26 ?_
    refine t_i (hRel2.2.2.2.2.1 0 (by omega)) ?_
    first | refine n_if_ne (tgt := 32) C dX6_equal_27 (by decide) (fun h_27 => ?_) (fun h_27 => ?_) | refine j_if_ne (tgt := 32) C dX6_equal_27 (by decide) (fun h_27 => ?_) (fun h_27 => ?_)
    · refine j_aload_n C dX6_equal_32 rfl rfl ?_
      refine g_getR C (by assumption) fl_X6_33 (by rfl) dX6_equal_33 ?_
      refine g_cvI C vc_X6_207 (c_X0_findZero l G rg _ _ 32 (aN A) (aE A) so6 (by omega) hRel2 hEW) ⟨Nat.le_of_ble_eq_true rfl, Nat.le_of_ble_eq_true rfl⟩ (eo1) rfl rfl (Nat.le_of_ble_eq_true rfl) ⟨Nat.zero_le _, Nat.zero_le _⟩ dX6_equal_36 (fun r_36 I_36 L_36 p_36 => ?_)
      obtain ⟨rfl, hG36, ⟨rfl, V, hV, hVR⟩ | ⟨rfl, hV⟩⟩ := p_36
      · have hV0 : V 0 = (1, 1) := (gbO_keep hV (hpl h01 h_27)).trans (va_up_self _ _ _)
        have hVW : ∀ k, k ≤ aN A → WF (V k) := fun k hk => (hVR k (by omega)).2
        refine j_if_eq (tgt := 63) C dX6_equal_39 (by decide) (fun h_39 => ?_) (fun h_39 => ?_)
        · exact absurd h_39 (by decide)
        · refine j_aload_n C dX6_equal_42 rfl rfl ?_
          refine g_getR C (by assumption) fl_X6_43 (by rfl) dX6_equal_43 ?_
          refine j_aload_n C dX6_equal_46 rfl rfl ?_
          refine g_getR C (by assumption) fl_X6_33 (by rfl) dX6_equal_47 ?_
          refine g_getR C (eo1) fl_X6_128 (by rfl) dX6_equal_50 ?_
          refine j_aload_n C dX6_equal_53 rfl rfl ?_
          refine g_getI C (by assumption) fl_X6_60 (by rfl) dX6_equal_54 ?_
          refine t_i (y := nI (aN A)) (by rw [k0 _ (by omega)]; exact rN) ?_
          refine g_cvI C vc_X6_210 (c_X4_byQuotients l G rg _ _ 190 (32 + 31) (32 + 32) (aN A) V so8 eo5 eo6 (by omega) (by omega) (by omega) (fun j hj => (hVR j hj).1)) ⟨Nat.le_of_ble_eq_true rfl, Nat.le_of_ble_eq_true rfl⟩ (po1) rfl rfl (Nat.le_of_ble_eq_true rfl) ⟨Nat.zero_le _, Nat.zero_le _⟩ dX6_equal_57 (fun r_57 I_57 L_57 p_57 => ?_)
          obtain ⟨rfl, hG57, ⟨rfl, X, hX, hPX⟩ | ⟨rfl, hX⟩⟩ := p_57
          · refine j_if_ne (tgt := 65) C dX6_equal_60 (by decide) (fun h_60 => ?_) (fun h_60 => ?_)
            · refine j_aload_n C dX6_equal_65 rfl rfl ?_
              refine g_getR C (by assumption) fl_X6_43 (by rfl) dX6_equal_66 ?_
              refine j_iconst (v := nI 1) C dX6_equal_69 (by decide) ?_
              refine g_putI C (po1) fw_X6_77 (by rfl) rfl (rfl) dX6_equal_70 ?_
              refine j_iconst (v := nI 1) C dX6_equal_73 (by decide) ?_
              have hes : equalS A = (aN A, aF A, aP A, aV A, aT A, aE A, aM A, some V) := by unfold equalS eqW; rw [if_pos h01, if_pos h_27, hV]
              refine j_iret C hr dX6_equal_74 ⟨by unfold equalR eqW; rw [if_pos h01, if_pos h_27]; simp only [hV]; rfl, ?_⟩
              rw [hes]
              have k1 : ∀ z, z ≠ 190 → up2 I2 190 3 (nI 1) z = I z := fun z hz => by rw [up2_ne _ hz]; exact k0 z hz
              refine ⟨by rw [k1 _ (by omega)]; exact rN, by rw [k1 _ (by omega)]; exact rF, by rw [k1 _ (by omega)]; exact rP, fun f k hf hk => by rw [k1 _ (by omega)]; exact rV f k hf hk, fun k hk => by rw [k1 _ (by omega)]; exact rT k hk, by rw [up2_at, if_pos rfl, if_pos rfl]; rfl, (hG57.fr (by omega)).trans ((hG36.fr (by omega)).trans rx0), fun Y hY k q1 q2 => ?_, fun _ => ⟨?_, fun i j (hi : i ≤ aN A) (hj : j ≤ aN A) => (hG57.fr (by omega)).trans ((hG36.fr (by omega)).trans (hM1 i j hi hj))⟩⟩
              · cases hY; rw [hPX k q1 q2]; exact PR_z hV0 hVW hX k q1 q2
              · exact (RelC_fm hRel2 (show aN A < 5 by omega) hG36).cong (show aN A < 5 by omega) (by rw [up2_ne _ (by omega)]) (by rw [up2_ne _ (by omega)]) (fun q hq => hG57.fr (by omega)) (by rw [up2_ne _ (by omega)]) (fun s _ => by rw [up2_ne _ (by omega)]) (fun q q1 q2 => hG57.fr (by omega))
            · exact absurd h_60 (by decide)
          · exact absurd hX (quo_z hV0 hVW)
            skip
      · refine j_if_eq (tgt := 63) C dX6_equal_39 (by decide) (fun h_39 => ?_) (fun h_39 => ?_)
        · refine j_iconst (v := nI 2) C dX6_equal_63 (by decide) ?_
          have hes : equalS A = (aN A, aF A, aP A, aV A, aT A, aE A, aM A, none) := by unfold equalS eqW; rw [if_pos h01, if_pos h_27, hV]
          refine j_iret C hr dX6_equal_64 ⟨by unfold equalR eqW; rw [if_pos h01, if_pos h_27]; simp only [hV]; rfl, ?_⟩
          rw [hes]
          exact ⟨by rw [k0 _ (by omega)]; exact rN, by rw [k0 _ (by omega)]; exact rF, by rw [k0 _ (by omega)]; exact rP, fun f k hf hk => by rw [k0 _ (by omega)]; exact rV f k hf hk, fun k hk => by rw [k0 _ (by omega)]; exact rT k hk, by rw [hI2, up2_at, if_pos rfl, if_pos rfl]; rfl, (hG36.fr (by omega)).trans rx0, fun X hX => (by cases hX), fun _ => ⟨RelC_fm hRel2 (show aN A < 5 by omega) hG36, fun i j (hi : i ≤ aN A) (hj : j ≤ aN A) => (hG36.fr (by omega)).trans (hM1 i j hi hj)⟩⟩
        · exact absurd rfl h_39
    · refine j_iconst (v := nI 0) C dX6_equal_30 (by decide) ?_
      have hes : equalS A = (aN A, aF A, aP A, aV A, aT A, aE A, aM A, none) := by unfold equalS; rw [if_pos h01, h_27]; rfl
      refine j_iret C hr dX6_equal_31 ⟨by unfold equalR; rw [if_pos h01, h_27]; rfl, ?_⟩
      rw [hes]
      exact ⟨by rw [k0 _ (by omega)]; exact rN, by rw [k0 _ (by omega)]; exact rF, by rw [k0 _ (by omega)]; exact rP, fun f k hf hk => by rw [k0 _ (by omega)]; exact rV f k hf hk, fun k hk => by rw [k0 _ (by omega)]; exact rT k hk, by rw [hI2, up2_at, if_pos rfl, if_pos rfl]; rfl, rx0, fun X hX => (by cases hX), fun _ => ⟨hRel2, hM1⟩⟩
  · refine j_bipush (v := (-2)) C dX6_equal_7 (by decide) ?_
    exact j_iret C hr dX6_equal_9 (by unfold equalR equalS; rw [if_neg (of_decide_eq_false h_4), if_neg (of_decide_eq_false h_4)]; exact ⟨rfl, hRC⟩)
