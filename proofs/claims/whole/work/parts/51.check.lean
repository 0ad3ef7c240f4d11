/-! ===== the model: check ===== -/
theorem RM_wr {A : AS} {I : II} {L L1 : LL} (h : RM A I L) (w : Bool) (hL : ∀ q, q = 5 ∨ q = 6 ∨ (9 ≤ q ∧ q ≤ 12) ∨ q = 21 ∨ q = 22 → L1 q = L q) : RM A (setW I w) L1 := by
  obtain ⟨mN, mF, mP, mV, mA, mS, mT, mH, m8, m7, mX, mE⟩ := h
  have z : ∀ k, k ≠ 7 → setW I w 0 k = I 0 k := fun k hk => setW_k _ _ hk
  refine ⟨(z 0 (by decide)).trans mN, (z 1 (by decide)).trans mF, (z 3 (by decide)).trans mP, by rw [setW_q _ _ (by decide)]; exact mV, (z 35 (by decide)).trans mA, (z 14 (by decide)).trans mS, fun q => ?_, (z 32 (by decide)).trans mH, (z 8 (by decide)).trans m8, ⟨w, setW_7 _ _⟩, by rw [hL 21 (by omega), hL 22 (by omega)]; exact mX, fun q => ⟨(mE q).1.cong (setW_q _ _ (by decide)) (setW_q _ _ (by decide)) (setW_q _ _ (by decide)) (fun r r1 r2 => hL r (by omega)), fun i j hi hj => by rw [hL 5 (by omega), hL 6 (by omega)]; exact (mE q).2 i j hi hj⟩⟩
  obtain ⟨t1, t2, t3, t4, t5⟩ := mT q
  exact ⟨(z 36 (by decide)).trans t1, (z 37 (by decide)).trans t2, (z 38 (by decide)).trans t3, (z 39 (by decide)).trans t4, (z 40 (by decide)).trans t5⟩
theorem exO_u {E : ES} {i j s : Nat} {a : Fr} (hs : s < eS E) : exO E i j (eS E - s) a = ((itO E s i j).bind (fAdd a)).bind (exO E i j (eS E - (s + 1))) := by
  rw [show eS E - s = (eS E - (s + 1)) + 1 by omega, exO, show eS E - (eS E - (s + 1) + 1) = s by omega]
def CHi (A : AS) (L1 : LL) (w : Bool) (s i j : Nat) : Prop := (w = true → ckLong A) ∧ (w = false → ∀ a b, a ≤ aN A → b ≤ aN A → WF (L1 25 (5 * a + b), L1 26 (5 * a + b)) ∧ exO (aE A) a b (eS (aE A) - (if a < i ∨ (a = i ∧ b < j) then s + 1 else s)) (L1 25 (5 * a + b), L1 26 (5 * a + b)) = exO (aE A) a b (eS (aE A)) (0, 1))
theorem CH_0 {A : AS} {L1 : LL} (hn : aN A < 5) (h : ∀ k, k < 25 → (L1 25 k, L1 26 k) = (0, 1)) : CHi A L1 false 0 0 0 := ⟨(fun q => by cases q), fun _ a b ha hb => by rw [h (5 * a + b) (by omega), if_neg (by omega), Nat.sub_zero]; exact ⟨WF_01, rfl⟩⟩
theorem CH_n {A : AS} {L1 : LL} {w : Bool} {s i j : Nat} (h : CHi A L1 w s i j) (hj : aN A < j) : CHi A L1 w s (i + 1) 0 := ⟨h.1, fun q a b ha hb => by
  have := h.2 q a b ha hb
  by_cases e : a < i ∨ (a = i ∧ b < j)
  · rw [if_pos e] at this; rw [if_pos (by omega)]; exact this
  · rw [if_neg e] at this; rw [if_neg (by omega)]; exact this⟩
theorem CH_m {A : AS} {L1 : LL} {w : Bool} {s i : Nat} (h : CHi A L1 w s i 0) (hi : aN A < i) : CHi A L1 w (s + 1) 0 0 := ⟨h.1, fun q a b ha hb => by
  have := h.2 q a b ha hb
  rw [if_pos (by omega)] at this
  rw [if_neg (by omega)]; exact this⟩
theorem CH_s {A : AS} {L1 : LL} {w : Bool} {s i j : Nat} {x3 : Bool × Fr} (h : CHi A L1 w s i j) (hn : aN A < 5) (hs : s < eS (aE A)) (hi : i ≤ aN A) (hj : j ≤ aN A) (hx : x3 = mop w ((itO (aE A) s i j).bind (fAdd (L1 25 (5 * i + j), L1 26 (5 * i + j))))) : CHi A (up2 (up2 (setU L1 x3.2) 25 (5 * i + j) x3.2.1) 26 (5 * i + j) x3.2.2) x3.1 s i (j + 1) := by
  cases w with
  | true => rw [mop_t] at hx; rw [hx]; exact ⟨fun _ => h.1 rfl, fun q => by cases q⟩
  | false =>
    have h0 := h.2 rfl
    have h1 := (h0 i j hi hj).2
    rw [if_neg (by omega), exO_u hs] at h1
    cases hc : (itO (aE A) s i j).bind (fAdd (L1 25 (5 * i + j), L1 26 (5 * i + j))) with
    | none =>
      rw [hc] at h1
      rw [hc, mop_n] at hx
      rw [hx]
      exact ⟨fun _ => ⟨i, j, hi, hj, h1.symm⟩, fun q => by cases q⟩
    | some y =>
      rw [hc] at h1
      rw [hc, mop_s] at hx
      rw [hx]
      refine ⟨(fun q => by cases q), fun _ a b ha hb => ?_⟩
      have hy : WF y := by
        cases hi2 : itO (aE A) s i j with
        | none => rw [hi2] at hc; cases hc
        | some z => rw [hi2] at hc; exact fAdd_WF hc
      rw [up2_ne _ (show (25 : Nat) ≠ 26 by decide), up2_at, up2_at, if_pos rfl, if_pos rfl, up2_ne _ (show (26 : Nat) ≠ 25 by decide), setU_q _ _ (by decide), setU_q _ _ (by decide)]
      by_cases e : 5 * a + b = 5 * i + j
      · have ea : a = i := by omega
        have eb : b = j := by omega
        subst ea; subst eb
        rw [if_pos rfl, if_pos rfl, if_pos (by omega)]
        exact ⟨hy, h1⟩
      · rw [if_neg e, if_neg e]
        have := h0 a b ha hb
        by_cases e2 : a < i ∨ (a = i ∧ b < j)
        · rw [if_pos e2] at this; rw [if_pos (by omega)]; exact this
        · rw [if_neg e2] at this; rw [if_neg (by omega)]; exact this
def CSi (A : AS) (L1 : LL) (sm : Bool) (i j : Nat) : Prop := sm = true ↔ ∀ a b, a ≤ aN A → b ≤ aN A → (a < i ∨ (a = i ∧ b < j)) → (L1 25 (5 * a + b), L1 26 (5 * a + b)) = aM A a b
theorem CS_n {A : AS} {L1 : LL} {sm : Bool} {i j : Nat} (h : CSi A L1 sm i j) (hj : aN A < j) : CSi A L1 sm (i + 1) 0 := by
  unfold CSi at h ⊢
  rw [h]
  exact ⟨fun q a b ha hb e => q a b ha hb (by omega), fun q a b ha hb e => q a b ha hb (by omega)⟩
theorem CS_t {A : AS} {L1 : LL} {sm : Bool} {i j : Nat} (h : CSi A L1 sm i j) (h1 : L1 25 (5 * i + j) = (aM A i j).1) (h2 : L1 26 (5 * i + j) = (aM A i j).2) : CSi A L1 (sm && true) i (j + 1) := by
  unfold CSi at h ⊢
  rw [Bool.and_true, h]
  refine ⟨fun q a b ha hb e => ?_, fun q a b ha hb e => q a b ha hb (by omega)⟩
  by_cases e2 : a = i ∧ b = j
  · rw [e2.1, e2.2, h1, h2]
  · exact q a b ha hb (by omega)
theorem CS_f {A : AS} {L1 : LL} {sm : Bool} {i j : Nat} (h : ¬ (L1 25 (5 * i + j) = (aM A i j).1 ∧ L1 26 (5 * i + j) = (aM A i j).2)) (hi : i ≤ aN A) (hj : j ≤ aN A) : CSi A L1 (sm && false) i (j + 1) := by
  unfold CSi
  rw [Bool.and_false]
  refine ⟨(fun q => by cases q), fun q => absurd (q i j hi hj (by omega)) (fun e => h ⟨congrArg Prod.fst e, congrArg Prod.snd e⟩)⟩
theorem CK_end {A : AS} {L1 : LL} {sm : Bool} {i : Nat} (h01 : aT A 0 = 1) (hC : CHi A L1 false (eS (aE A)) 0 0) (hS : CSi A L1 sm i 0) (hi : aN A < i) : checkR A = (if sm = true then 1 else 0) := by
  have h := hC.2 rfl
  have e : ∀ a b, a ≤ aN A → b ≤ aN A → exO (aE A) a b (eS (aE A)) (0, 1) = some (L1 25 (5 * a + b), L1 26 (5 * a + b)) := fun a b ha hb => by
    have := (h a b ha hb).2
    rw [if_neg (by omega), Nat.sub_self] at this
    exact this.symm
  have hl : ¬ ckLong A := fun ⟨a, b, ha, hb, q⟩ => by rw [e a b ha hb] at q; cases q
  unfold checkR
  rw [if_pos h01, cif_f hl]
  by_cases hs : sm = true
  · rw [if_pos hs, cif_t (show ckSame A from fun a b ha hb => by rw [e a b ha hb, hS.mp hs a b ha hb (by omega)])]
  · rw [if_neg hs, cif_f (show ¬ ckSame A from fun q => hs (hS.mpr (fun a b ha hb _ => by have := q a b ha hb; rw [e a b ha hb] at this; exact Option.some.inj this)))]
theorem i0_s {L1 : LL} {i : Nat} (h : ∀ k, k < i → (L1 25 k, L1 26 k) = (0, 1)) : ∀ k, k < i + 1 → (up2 (up2 L1 25 i 0) 26 i 1 25 k, up2 (up2 L1 25 i 0) 26 i 1 26 k) = (0, 1) := fun j hj => by
  rw [up2_ne _ (show (25 : Nat) ≠ 26 by decide), up2_at, up2_at, if_pos rfl, if_pos rfl, up2_ne _ (show (26 : Nat) ≠ 25 by decide)]
  by_cases e : j = i
  · rw [if_pos e, if_pos e]
  · rw [if_neg e, if_neg e]; exact h j (by omega)
set_option maxHeartbeats 4000000 in
set_option maxRecDepth 20000 in
theorem c_X7_check (l : Launch) (G : GT) (rg : RgT) (I : II) (L : LL) (A : AS) (hms : isMS rg) (hRM : RM A I L) (hok : aok A) : CtI l yX7_check cX7_check 5 (some FieldType.int) 8 G rg I L [.ref (gB G + 0)] (fun r I1 L1 => r = checkR A ∧ RM A I1 L1) := by
  refine ctI_of [some (.ref (gB G + 0)), none, none, none, none] rfl (Nat.le_of_ble_eq_true rfl) (by decide) ?_
  intro p e s m args below meth c C hr
  obtain ⟨o0, a1, a2, a3, a4, a5, a6, a7, a8, a9, a10, a11, a12, a13, a14, a15, a16, a17, a18, a19, a20, a21, a22, a23, a24, a25, a26⟩ := id hms
  obtain ⟨mN, mF, mP, mV, mA, mS, mT, mH, m8, m7, mX, mE⟩ := id hRM
  obtain ⟨k1, k4, k12, kT, kT0, kP⟩ := id hok
  refine j_aload_n C dX7_check_0 rfl rfl ?_
  refine g_getI C (o0) fl_X7_94 (by rfl) dX7_check_1 ?_
  refine t_i mA ?_
  refine j_iconst (v := nI 1) C dX7_check_4 (by decide) ?_
  refine j_icmp_eq (tgt := 11) C dX7_check_5 (by decide) (fun h_5 => ?_) (fun h_5 => ?_)
  · have h01 := (eq_ans hok).mp h_5
    obtain ⟨hRX, hFi⟩ := mE h01
    obtain ⟨hEW, hEI, kT1, kT5⟩ := kT h01
    refine j_aload_n C dX7_check_11 rfl rfl ?_
    refine g_cvV C vc_X7_195 (c_X7_begin l G rg _ _ hms) ⟨Nat.le_of_ble_eq_true rfl, Nat.le_of_ble_eq_true rfl⟩ (o0) rfl rfl (Nat.le_of_ble_eq_true rfl) ⟨Nat.zero_le _, Nat.zero_le _⟩ dX7_check_12 (fun I_12 L_12 p_12 => ?_)
    obtain ⟨rfl, rfl⟩ := p_12
    refine t_IL (I1 := setW I false) (up2_same _ ((setW_k _ _ (by decide)).trans m8)) rfl ?_
    refine j_iconst (v := nI 0) C dX7_check_15 (by decide) ?_
    refine j_istore_n C dX7_check_16 rfl (by decide) ?_
    have lo : ∀ (fuel : Nat) (i : Nat) (L1 : LL), 25 < fuel + i → i ≤ 25 → (∀ q, q ≠ 25 → q ≠ 26 → L1 q = L q) → (∀ k, k < i → (L1 25 k, L1 26 k) = (0, 1)) → J p l e (rmD 8) s m args below meth c (MQ below (QI G rg (fun r I1 L1 => r = checkR A ∧ RM A I1 L1)) args s 0 0 (rg_A G rg)) 5 G rg 0 0 (setW I false) L1 17 [some (.ref (gB G + 0)), some (.int (nI i)), none, none, none] [] := by
      intro fuel
      induction fuel with
      | zero => intro i L1 t1 t2 hLf hZ; exfalso; omega
      | succ fuel ih_lo =>
        intro i L1 t1 t2 hLf hZ
        refine j_iload_n C dX7_check_17 rfl rfl ?_
        refine j_bipush (v := nI 25) C dX7_check_18 (by decide) ?_
        first | refine n_icmp_ge (tgt := 43) C (by omega) (by omega) dX7_check_20 (by decide) (fun h_20 => ?_) (fun h_20 => ?_) | refine j_icmp_ge (tgt := 43) C dX7_check_20 (by decide) (fun h_20 => ?_) (fun h_20 => ?_)
        · refine j_iconst (v := nI 0) C dX7_check_43 (by decide) ?_
          refine j_istore_n C dX7_check_44 rfl (by decide) ?_
          have ls : ∀ (fuel : Nat) (s0 : Nat) (w : Bool) (L1 : LL), eS (aE A) < fuel + s0 → s0 ≤ eS (aE A) → (∀ q, q ≠ 0 → q ≠ 25 → q ≠ 26 → L1 q = L q) → CHi A L1 w s0 0 0 → J p l e (rmD 8) s m args below meth c (MQ below (QI G rg (fun r I1 L1 => r = checkR A ∧ RM A I1 L1)) args s 0 0 (rg_A G rg)) 5 G rg 0 0 (setW I w) L1 45 [some (.ref (gB G + 0)), some (.int (nI s0)), none, none, none] [] := by
            intro fuel
            induction fuel with
            | zero => intro s0 w L1 h1 h2 hLf hC; exfalso; omega
            | succ fuel ih_ls =>
              intro s0 w L1 h1 h2 hLf hC
              refine j_iload_n C dX7_check_45 rfl rfl ?_
              refine j_aload_n C dX7_check_46 rfl rfl ?_
              refine g_getI C (o0) fl_X7_109 (by rfl) dX7_check_47 ?_
              refine t_i (y := nI (eS (aE A))) ((setW_k _ _ (by decide)).trans (mS.trans kT1)) ?_
              first | refine n_icmp_ge (tgt := 214) C (by omega) (by omega) dX7_check_50 (by decide) (fun h_50 => ?_) (fun h_50 => ?_) | refine j_icmp_ge (tgt := 214) C dX7_check_50 (by decide) (fun h_50 => ?_) (fun h_50 => ?_)
              · refine j_aload_n C dX7_check_214 rfl rfl ?_
                refine g_cvI C vc_X7_154 (c_X7_isWrong l G rg _ _ w hms (setW_7 _ _) ((setW_k _ _ (by decide)).trans m8)) ⟨Nat.le_of_ble_eq_true rfl, Nat.le_of_ble_eq_true rfl⟩ (o0) rfl rfl (Nat.le_of_ble_eq_true rfl) ⟨Nat.zero_le _, Nat.zero_le _⟩ dX7_check_215 (fun r_215 I_215 L_215 p_215 => ?_)
                obtain ⟨rfl, rfl, rfl⟩ := p_215
                first | refine n_if_eq (tgt := 223) C dX7_check_218 (by decide) (fun h_218 => ?_) (fun h_218 => ?_) | refine j_if_eq (tgt := 223) C dX7_check_218 (by decide) (fun h_218 => ?_) (fun h_218 => ?_)
                · have es : s0 = eS (aE A) := by omega
                  subst es
                  subst h_218
                  refine j_iconst (v := b2i true) C dX7_check_223 (by decide) ?_
                  refine j_istore_n C dX7_check_224 rfl (by decide) ?_
                  refine j_iconst (v := nI 0) C dX7_check_225 (by decide) ?_
                  refine j_istore_n C dX7_check_226 rfl (by decide) ?_
                  have la : ∀ (fuel : Nat) (a : Nat) (sm : Bool), aN A + 1 < fuel + a → a ≤ aN A + 1 → CSi A L1 sm a 0 → J p l e (rmD 8) s m args below meth c (MQ below (QI G rg (fun r I1 L1 => r = checkR A ∧ RM A I1 L1)) args s 0 0 (rg_A G rg)) 5 G rg 0 0 (setW I false) L1 227 [some (.ref (gB G + 0)), some (.int (b2i sm)), some (.int (nI a)), none, none] [] := by
                    intro fuel
                    induction fuel with
                    | zero => intro a sm u1 u2 hS; exfalso; omega
                    | succ fuel ih_la =>
                      intro a sm u1 u2 hS
                      refine j_iload_n C dX7_check_227 rfl rfl ?_
                      refine j_aload_n C dX7_check_228 rfl rfl ?_
                      refine g_getI C (o0) fl_X7_7 (by rfl) dX7_check_229 ?_
                      refine t_i (y := nI (aN A)) ((setW_k _ _ (by decide)).trans mN) ?_
                      first | refine n_icmp_gt (tgt := 308) C (by omega) (by omega) dX7_check_232 (by decide) (fun h_232 => ?_) (fun h_232 => ?_) | refine j_icmp_gt (tgt := 308) C dX7_check_232 (by decide) (fun h_232 => ?_) (fun h_232 => ?_)
                      · refine j_iload_n C dX7_check_308 rfl rfl ?_
                        first | refine n_if_eq (tgt := 316) C dX7_check_309 (by decide) (fun h_309 => ?_) (fun h_309 => ?_) | refine j_if_eq (tgt := 316) C dX7_check_309 (by decide) (fun h_309 => ?_) (fun h_309 => ?_)
                        · refine j_iconst (v := nI 0) C dX7_check_316 (by decide) ?_
                          exact j_iret C hr dX7_check_317 ⟨by rw [CK_end h01 hC hS (by omega), h_309]; rfl, RM_wr hRM false (fun q hq => hLf q (by omega) (by omega) (by omega))⟩
                        · refine j_iconst (v := nI 1) C dX7_check_312 (by decide) ?_
                          refine j_goto (tgt := 317) C dX7_check_313 (by decide) ?_
                          exact j_iret C hr dX7_check_317 ⟨by rw [CK_end h01 hC hS (by omega), h_309]; rfl, RM_wr hRM false (fun q hq => hLf q (by omega) (by omega) (by omega))⟩
                      · refine j_iconst (v := nI 0) C dX7_check_235 (by decide) ?_
                        refine j_istore_n C dX7_check_236 rfl (by decide) ?_
                        have lb : ∀ (fuel : Nat) (b : Nat) (sm : Bool), aN A + 1 < fuel + b → b ≤ aN A + 1 → CSi A L1 sm a b → J p l e (rmD 8) s m args below meth c (MQ below (QI G rg (fun r I1 L1 => r = checkR A ∧ RM A I1 L1)) args s 0 0 (rg_A G rg)) 5 G rg 0 0 (setW I false) L1 237 [some (.ref (gB G + 0)), some (.int (b2i sm)), some (.int (nI a)), some (.int (nI b)), none] [] := by
                          intro fuel
                          induction fuel with
                          | zero => intro b sm v1 v2 hS; exfalso; omega
                          | succ fuel ih_lb =>
                            intro b sm v1 v2 hS
                            refine j_iload_n C dX7_check_237 rfl rfl ?_
                            refine j_aload_n C dX7_check_238 rfl rfl ?_
                            refine g_getI C (o0) fl_X7_7 (by rfl) dX7_check_239 ?_
                            refine t_i (y := nI (aN A)) ((setW_k _ _ (by decide)).trans mN) ?_
                            first | refine n_icmp_gt (tgt := 302) C (by omega) (by omega) dX7_check_242 (by decide) (fun h_242 => ?_) (fun h_242 => ?_) | refine j_icmp_gt (tgt := 302) C dX7_check_242 (by decide) (fun h_242 => ?_) (fun h_242 => ?_)
                            · first | refine n_iinc (n := 1) C dX7_check_302 rfl (by decide) ?_ | refine j_iinc C dX7_check_302 rfl rfl (by decide) ?_
                              refine j_goto (tgt := 227) C dX7_check_305 (by decide) ?_
                              refine j_rm 3 ?_
                              exact ih_la (a + 1) sm (by omega) (by omega) (CS_n hS (by omega))
                            · refine j_iconst (v := nI 5) C dX7_check_245 (by decide) ?_
                              refine j_iload_n C dX7_check_246 rfl rfl ?_
                              first | refine n_imul C dX7_check_247 ?_ | refine j_imul C dX7_check_247 ?_
                              refine j_iload_n C dX7_check_248 rfl rfl ?_
                              first | refine n_iadd C dX7_check_249 ?_ | refine j_iadd C dX7_check_249 ?_
                              refine j_istore C dX7_check_250 (by decide) ?_
                              refine j_iload_n C dX7_check_252 rfl rfl ?_
                              refine j_aload_n C dX7_check_253 rfl rfl ?_
                              refine g_getR C (o0) fl_X7_88 (by rfl) dX7_check_254 ?_
                              refine j_iload C dX7_check_257 rfl ?_
                              refine g_lald C (a25) (by omega) (by decide) dX7_check_259 ?_
                              refine j_aload_n C dX7_check_260 rfl rfl ?_
                              refine g_getR C (o0) fl_X7_27 (by rfl) dX7_check_261 ?_
                              refine j_iload C dX7_check_264 rfl ?_
                              refine g_lald C (a5) (by omega) (by decide) dX7_check_266 ?_
                              refine t_l (y := (aM A a b).1) (by rw [hLf 5 (by decide) (by decide) (by decide)]; exact congrArg Prod.fst (hFi a b (by omega) (by omega))) ?_
                              refine j_lc_ne (tgt := 293) C dX7_check_267 dX7_check_268 (by decide) (fun h_268 => ?_) (fun h_268 => ?_)
                              · refine j_iconst (v := b2i false) C dX7_check_293 (by decide) ?_
                                refine j_iand C dX7_check_294 ?_
                                refine t_i (b2i_an _ _) ?_
                                refine j_istore_n C dX7_check_295 rfl (by decide) ?_
                                first | refine n_iinc (n := 1) C dX7_check_296 rfl (by decide) ?_ | refine j_iinc C dX7_check_296 rfl rfl (by decide) ?_
                                refine j_goto (tgt := 237) C dX7_check_299 (by decide) ?_
                                refine j_rm 4 ?_
                                first
                                | exact ih_lb (b + 1) _ (by omega) (by omega) (CS_t hS h_268 h_286)
                                | exact ih_lb (b + 1) _ (by omega) (by omega) (CS_f (fun q => h_268 q.1) (by omega) (by omega))
                                | exact ih_lb (b + 1) _ (by omega) (by omega) (CS_f (fun q => h_286 q.2) (by omega) (by omega))
                              · refine j_aload_n C dX7_check_271 rfl rfl ?_
                                refine g_getR C (o0) fl_X7_91 (by rfl) dX7_check_272 ?_
                                refine j_iload C dX7_check_275 rfl ?_
                                refine g_lald C (a26) (by omega) (by decide) dX7_check_277 ?_
                                refine j_aload_n C dX7_check_278 rfl rfl ?_
                                refine g_getR C (o0) fl_X7_30 (by rfl) dX7_check_279 ?_
                                refine j_iload C dX7_check_282 rfl ?_
                                refine g_lald C (a6) (by omega) (by decide) dX7_check_284 ?_
                                refine t_l (y := (aM A a b).2) (by rw [hLf 6 (by decide) (by decide) (by decide)]; exact congrArg Prod.snd (hFi a b (by omega) (by omega))) ?_
                                refine j_lc_ne (tgt := 293) C dX7_check_285 dX7_check_286 (by decide) (fun h_286 => ?_) (fun h_286 => ?_)
                                · refine j_iconst (v := b2i false) C dX7_check_293 (by decide) ?_
                                  refine j_iand C dX7_check_294 ?_
                                  refine t_i (b2i_an _ _) ?_
                                  refine j_istore_n C dX7_check_295 rfl (by decide) ?_
                                  first | refine n_iinc (n := 1) C dX7_check_296 rfl (by decide) ?_ | refine j_iinc C dX7_check_296 rfl rfl (by decide) ?_
                                  refine j_goto (tgt := 237) C dX7_check_299 (by decide) ?_
                                  refine j_rm 4 ?_
                                  first
                                  | exact ih_lb (b + 1) _ (by omega) (by omega) (CS_t hS h_268 h_286)
                                  | exact ih_lb (b + 1) _ (by omega) (by omega) (CS_f (fun q => h_268 q.1) (by omega) (by omega))
                                  | exact ih_lb (b + 1) _ (by omega) (by omega) (CS_f (fun q => h_286 q.2) (by omega) (by omega))
                                · refine j_iconst (v := b2i true) C dX7_check_289 (by decide) ?_
                                  refine j_goto (tgt := 294) C dX7_check_290 (by decide) ?_
                                  refine j_iand C dX7_check_294 ?_
                                  refine t_i (b2i_an _ _) ?_
                                  refine j_istore_n C dX7_check_295 rfl (by decide) ?_
                                  first | refine n_iinc (n := 1) C dX7_check_296 rfl (by decide) ?_ | refine j_iinc C dX7_check_296 rfl rfl (by decide) ?_
                                  refine j_goto (tgt := 237) C dX7_check_299 (by decide) ?_
                                  refine j_rm 4 ?_
                                  first
                                  | exact ih_lb (b + 1) _ (by omega) (by omega) (CS_t hS h_268 h_286)
                                  | exact ih_lb (b + 1) _ (by omega) (by omega) (CS_f (fun q => h_268 q.1) (by omega) (by omega))
                                  | exact ih_lb (b + 1) _ (by omega) (by omega) (CS_f (fun q => h_286 q.2) (by omega) (by omega))
                        exact lb (aN A + 2) 0 sm (by omega) (by omega) hS
                  exact la (aN A + 2) 0 true (by omega) (by omega) ⟨fun _ a b _ _ e => by omega, fun _ => rfl⟩
                · refine j_iconst (v := nI 2) C dX7_check_221 (by decide) ?_
                  refine j_iret C hr dX7_check_222 ⟨?_, RM_wr hRM w (fun q hq => hLf q (by omega) (by omega) (by omega))⟩
                  unfold checkR
                  rw [if_pos h01, cif_t (hC.1 h_218)]
                  rfl
              · refine j_iconst (v := nI 0) C dX7_check_53 (by decide) ?_
                refine j_istore_n C dX7_check_54 rfl (by decide) ?_
                have li : ∀ (fuel : Nat) (a : Nat) (w : Bool) (L1 : LL), aN A + 1 < fuel + a → a ≤ aN A + 1 → (∀ q, q ≠ 0 → q ≠ 25 → q ≠ 26 → L1 q = L q) → CHi A L1 w s0 a 0 → J p l e (rmD 8) s m args below meth c (MQ below (QI G rg (fun r I1 L1 => r = checkR A ∧ RM A I1 L1)) args s 0 0 (rg_A G rg)) 5 G rg 0 0 (setW I w) L1 55 [some (.ref (gB G + 0)), some (.int (nI s0)), some (.int (nI a)), none, none] [] := by
                  intro fuel
                  induction fuel with
                  | zero => intro a w L1 u1 u2 hLf hC; exfalso; omega
                  | succ fuel ih_li =>
                    intro a w L1 u1 u2 hLf hC
                    refine j_iload_n C dX7_check_55 rfl rfl ?_
                    refine j_aload_n C dX7_check_56 rfl rfl ?_
                    refine g_getI C (o0) fl_X7_7 (by rfl) dX7_check_57 ?_
                    refine t_i (y := nI (aN A)) ((setW_k _ _ (by decide)).trans mN) ?_
                    first | refine n_icmp_gt (tgt := 208) C (by omega) (by omega) dX7_check_60 (by decide) (fun h_60 => ?_) (fun h_60 => ?_) | refine j_icmp_gt (tgt := 208) C dX7_check_60 (by decide) (fun h_60 => ?_) (fun h_60 => ?_)
                    · first | refine n_iinc (n := 1) C dX7_check_208 rfl (by decide) ?_ | refine j_iinc C dX7_check_208 rfl rfl (by decide) ?_
                      refine j_goto (tgt := 45) C dX7_check_211 (by decide) ?_
                      refine j_rm 2 ?_
                      exact ih_ls (s0 + 1) w L1 (by omega) (by omega) hLf (CH_m hC (by omega))
                    · refine j_iconst (v := nI 0) C dX7_check_63 (by decide) ?_
                      refine j_istore_n C dX7_check_64 rfl (by decide) ?_
                      have lj : ∀ (fuel : Nat) (b : Nat) (w : Bool) (L1 : LL), aN A + 1 < fuel + b → b ≤ aN A + 1 → (∀ q, q ≠ 0 → q ≠ 25 → q ≠ 26 → L1 q = L q) → CHi A L1 w s0 a b → J p l e (rmD 8) s m args below meth c (MQ below (QI G rg (fun r I1 L1 => r = checkR A ∧ RM A I1 L1)) args s 0 0 (rg_A G rg)) 5 G rg 0 0 (setW I w) L1 65 [some (.ref (gB G + 0)), some (.int (nI s0)), some (.int (nI a)), some (.int (nI b)), none] [] := by
                        intro fuel
                        induction fuel with
                        | zero => intro b w L1 v1 v2 hLf hC; exfalso; omega
                        | succ fuel ih_lj =>
                          intro b w L1 v1 v2 hLf hC
                          refine j_iload_n C dX7_check_65 rfl rfl ?_
                          refine j_aload_n C dX7_check_66 rfl rfl ?_
                          refine g_getI C (o0) fl_X7_7 (by rfl) dX7_check_67 ?_
                          refine t_i (y := nI (aN A)) ((setW_k _ _ (by decide)).trans mN) ?_
                          first | refine n_icmp_gt (tgt := 202) C (by omega) (by omega) dX7_check_70 (by decide) (fun h_70 => ?_) (fun h_70 => ?_) | refine j_icmp_gt (tgt := 202) C dX7_check_70 (by decide) (fun h_70 => ?_) (fun h_70 => ?_)
                          · first | refine n_iinc (n := 1) C dX7_check_202 rfl (by decide) ?_ | refine j_iinc C dX7_check_202 rfl rfl (by decide) ?_
                            refine j_goto (tgt := 55) C dX7_check_205 (by decide) ?_
                            refine j_rm 3 ?_
                            exact ih_li (a + 1) w L1 (by omega) (by omega) hLf (CH_n hC (by omega))
                          · obtain ⟨hE1, hE2, hE3⟩ := hEW.2 s0 (by omega)
                            obtain ⟨hR1, hR2, hR3, hR4⟩ := hRX.2 s0 (by omega)
                            refine j_iconst (v := nI 5) C dX7_check_73 (by decide) ?_
                            refine j_iload_n C dX7_check_74 rfl rfl ?_
                            first | refine n_imul C dX7_check_75 ?_ | refine j_imul C dX7_check_75 ?_
                            refine j_iload_n C dX7_check_76 rfl rfl ?_
                            first | refine n_iadd C dX7_check_77 ?_ | refine j_iadd C dX7_check_77 ?_
                            refine j_istore C dX7_check_78 (by decide) ?_
                            refine j_aload_n C dX7_check_80 rfl rfl ?_
                            refine j_aload_n C dX7_check_81 rfl rfl ?_
                            refine g_getR C (o0) fl_X7_40 (by rfl) dX7_check_82 ?_
                            refine j_iload_n C dX7_check_85 rfl rfl ?_
                            refine g_lald C (a9) (by omega) (by decide) dX7_check_86 ?_
                            refine t_l (y := (eW (aE A) s0).1) (by rw [hLf 9 (by decide) (by decide) (by decide)]; exact congrArg Prod.fst hR2) ?_
                            refine j_aload_n C dX7_check_87 rfl rfl ?_
                            refine g_getR C (o0) fl_X7_43 (by rfl) dX7_check_88 ?_
                            refine j_iload_n C dX7_check_91 rfl rfl ?_
                            refine g_lald C (a10) (by omega) (by decide) dX7_check_92 ?_
                            refine t_l (y := (eW (aE A) s0).2) (by rw [hLf 10 (by decide) (by decide) (by decide)]; exact congrArg Prod.snd hR2) ?_
                            refine j_aload_n C dX7_check_93 rfl rfl ?_
                            refine g_getR C (o0) fl_X7_46 (by rfl) dX7_check_94 ?_
                            refine j_iconst (v := nI 5) C dX7_check_97 (by decide) ?_
                            refine j_iload_n C dX7_check_98 rfl rfl ?_
                            first | refine n_imul C dX7_check_99 ?_ | refine j_imul C dX7_check_99 ?_
                            refine j_iload_n C dX7_check_100 rfl rfl ?_
                            first | refine n_iadd C dX7_check_101 ?_ | refine j_iadd C dX7_check_101 ?_
                            refine g_lald C (a11) (by omega) (by decide) dX7_check_102 ?_
                            refine t_l (y := (eN (aE A) s0 a).1) (by rw [hLf 11 (by decide) (by decide) (by decide)]; exact congrArg Prod.fst (hR3 a (by omega))) ?_
                            refine j_aload_n C dX7_check_103 rfl rfl ?_
                            refine g_getR C (o0) fl_X7_49 (by rfl) dX7_check_104 ?_
                            refine j_iconst (v := nI 5) C dX7_check_107 (by decide) ?_
                            refine j_iload_n C dX7_check_108 rfl rfl ?_
                            first | refine n_imul C dX7_check_109 ?_ | refine j_imul C dX7_check_109 ?_
                            refine j_iload_n C dX7_check_110 rfl rfl ?_
                            first | refine n_iadd C dX7_check_111 ?_ | refine j_iadd C dX7_check_111 ?_
                            refine g_lald C (a12) (by omega) (by decide) dX7_check_112 ?_
                            refine t_l (y := (eN (aE A) s0 a).2) (by rw [hLf 12 (by decide) (by decide) (by decide)]; exact congrArg Prod.snd (hR3 a (by omega))) ?_
                            refine g_cvV C vc_X7_179 (c_X7_product l G rg _ _ w _ _ _ _ hms (setW_7 _ _) ((setW_k _ _ (by decide)).trans m8) (fun _ => hE2) (fun _ => (hE3 a).1)) ⟨Nat.le_of_ble_eq_true rfl, Nat.le_of_ble_eq_true rfl⟩ (o0) rfl rfl (Nat.le_of_ble_eq_true rfl) ⟨Nat.zero_le _, Nat.zero_le _⟩ dX7_check_113 (fun I_113 L_113 p_113 => ?_)
                            obtain ⟨e1, e2⟩ := p_113
                            rw [setW_2] at e1
                            subst e1
                            subst e2
                            obtain ⟨x1, hx1⟩ : ∃ x, x = mop w (fMul (eW (aE A) s0) (eN (aE A) s0 a)) := ⟨_, rfl⟩
                            refine t_IL (I1 := setW I x1.1) (L1 := setU L1 x1.2) (by rw [hx1]) (by rw [hx1]) ?_
                            have hk1 : x1.1 = false → w = false ∧ WF x1.2 := mop_k1 hx1 (fun _ z => fMul_WF z)
                            refine j_aload_n C dX7_check_116 rfl rfl ?_
                            refine j_aload_n C dX7_check_117 rfl rfl ?_
                            refine g_getL C (o0) fl_X7_147 (by rfl) dX7_check_118 ?_
                            refine t_l (setU_5 _ _) ?_
                            refine j_aload_n C dX7_check_121 rfl rfl ?_
                            refine g_getL C (o0) fl_X7_151 (by rfl) dX7_check_122 ?_
                            refine t_l (setU_6 _ _) ?_
                            refine j_aload_n C dX7_check_125 rfl rfl ?_
                            refine g_getR C (o0) fl_X7_46 (by rfl) dX7_check_126 ?_
                            refine j_iconst (v := nI 5) C dX7_check_129 (by decide) ?_
                            refine j_iload_n C dX7_check_130 rfl rfl ?_
                            first | refine n_imul C dX7_check_131 ?_ | refine j_imul C dX7_check_131 ?_
                            refine j_iload_n C dX7_check_132 rfl rfl ?_
                            first | refine n_iadd C dX7_check_133 ?_ | refine j_iadd C dX7_check_133 ?_
                            refine g_lald C (a11) (by omega) (by decide) dX7_check_134 ?_
                            refine t_l (y := (eN (aE A) s0 b).1) (by rw [setU_q _ _ (by decide), hLf 11 (by decide) (by decide) (by decide)]; exact congrArg Prod.fst (hR3 b (by omega))) ?_
                            refine j_aload_n C dX7_check_135 rfl rfl ?_
                            refine g_getR C (o0) fl_X7_49 (by rfl) dX7_check_136 ?_
                            refine j_iconst (v := nI 5) C dX7_check_139 (by decide) ?_
                            refine j_iload_n C dX7_check_140 rfl rfl ?_
                            first | refine n_imul C dX7_check_141 ?_ | refine j_imul C dX7_check_141 ?_
                            refine j_iload_n C dX7_check_142 rfl rfl ?_
                            first | refine n_iadd C dX7_check_143 ?_ | refine j_iadd C dX7_check_143 ?_
                            refine g_lald C (a12) (by omega) (by decide) dX7_check_144 ?_
                            refine t_l (y := (eN (aE A) s0 b).2) (by rw [setU_q _ _ (by decide), hLf 12 (by decide) (by decide) (by decide)]; exact congrArg Prod.snd (hR3 b (by omega))) ?_
                            refine g_cvV C vc_X7_179 (c_X7_product l G rg _ _ x1.1 _ _ _ _ hms (setW_7 _ _) ((setW_k _ _ (by decide)).trans m8) (fun z => (hk1 z).2) (fun _ => (hE3 b).1)) ⟨Nat.le_of_ble_eq_true rfl, Nat.le_of_ble_eq_true rfl⟩ (o0) rfl rfl (Nat.le_of_ble_eq_true rfl) ⟨Nat.zero_le _, Nat.zero_le _⟩ dX7_check_145 (fun I_145 L_145 p_145 => ?_)
                            obtain ⟨e1, e2⟩ := p_145
                            rw [setW_2] at e1
                            rw [setU_2] at e2
                            subst e1
                            subst e2
                            obtain ⟨x2, hx2⟩ : ∃ x, x = mop x1.1 (fMul x1.2 (eN (aE A) s0 b)) := ⟨_, rfl⟩
                            refine t_IL (I1 := setW I x2.1) (L1 := setU L1 x2.2) (by rw [hx2]) (by rw [hx2]) ?_
                            have hk2 : x2.1 = false → x1.1 = false ∧ WF x2.2 := mop_k1 hx2 (fun _ z => fMul_WF z)
                            refine j_aload_n C dX7_check_148 rfl rfl ?_
                            refine j_aload_n C dX7_check_149 rfl rfl ?_
                            refine g_getR C (o0) fl_X7_88 (by rfl) dX7_check_150 ?_
                            refine j_iload C dX7_check_153 rfl ?_
                            refine g_lald C (a25) (by omega) (by decide) dX7_check_155 ?_
                            refine t_l (y := L1 25 (5 * a + b)) (congrFun (setU_q _ _ (by decide)) _) ?_
                            refine j_aload_n C dX7_check_156 rfl rfl ?_
                            refine g_getR C (o0) fl_X7_91 (by rfl) dX7_check_157 ?_
                            refine j_iload C dX7_check_160 rfl ?_
                            refine g_lald C (a26) (by omega) (by decide) dX7_check_162 ?_
                            refine t_l (y := L1 26 (5 * a + b)) (congrFun (setU_q _ _ (by decide)) _) ?_
                            refine j_aload_n C dX7_check_163 rfl rfl ?_
                            refine g_getL C (o0) fl_X7_147 (by rfl) dX7_check_164 ?_
                            refine t_l (setU_5 _ _) ?_
                            refine j_aload_n C dX7_check_167 rfl rfl ?_
                            refine g_getL C (o0) fl_X7_151 (by rfl) dX7_check_168 ?_
                            refine t_l (setU_6 _ _) ?_
                            refine g_cvV C vc_X7_224 (c_X7_sum l G rg _ _ x2.1 _ _ _ _ hms (setW_7 _ _) ((setW_k _ _ (by decide)).trans m8) (fun z => (hC.2 (hk1 (hk2 z).1).1 a b (by omega) (by omega)).1) (fun z => (hk2 z).2)) ⟨Nat.le_of_ble_eq_true rfl, Nat.le_of_ble_eq_true rfl⟩ (o0) rfl rfl (Nat.le_of_ble_eq_true rfl) ⟨Nat.zero_le _, Nat.zero_le _⟩ dX7_check_171 (fun I_171 L_171 p_171 => ?_)
                            obtain ⟨e1, e2⟩ := p_171
                            rw [setW_2] at e1
                            rw [setU_2] at e2
                            subst e1
                            subst e2
                            obtain ⟨x3, hx3⟩ : ∃ x, x = mop x2.1 (fAdd (L1 25 (5 * a + b), L1 26 (5 * a + b)) x2.2) := ⟨_, rfl⟩
                            refine t_IL (I1 := setW I x3.1) (L1 := setU L1 x3.2) (by rw [hx3]) (by rw [hx3]) ?_
                            refine j_aload_n C dX7_check_174 rfl rfl ?_
                            refine g_getR C (o0) fl_X7_88 (by rfl) dX7_check_175 ?_
                            refine j_iload C dX7_check_178 rfl ?_
                            refine j_aload_n C dX7_check_180 rfl rfl ?_
                            refine g_getL C (o0) fl_X7_147 (by rfl) dX7_check_181 ?_
                            refine t_l (setU_5 _ _) ?_
                            refine g_last C (a25) (by omega) (by decide) dX7_check_184 ?_
                            refine j_aload_n C dX7_check_185 rfl rfl ?_
                            refine g_getR C (o0) fl_X7_91 (by rfl) dX7_check_186 ?_
                            refine j_iload C dX7_check_189 rfl ?_
                            refine j_aload_n C dX7_check_191 rfl rfl ?_
                            refine g_getL C (o0) fl_X7_151 (by rfl) dX7_check_192 ?_
                            refine t_l (y := x3.2.2) (by rw [up2_ne _ (by decide)]; exact setU_6 _ _) ?_
                            refine g_last C (a26) (by omega) (by decide) dX7_check_195 ?_
                            first | refine n_iinc (n := 1) C dX7_check_196 rfl (by decide) ?_ | refine j_iinc C dX7_check_196 rfl rfl (by decide) ?_
                            refine j_goto (tgt := 65) C dX7_check_199 (by decide) ?_
                            refine j_rm 4 ?_
                            exact ih_lj (b + 1) x3.1 _ (by omega) (by omega) (fun q q0 q1 q2 => by rw [up2_ne _ q2, up2_ne _ q1, setU_q _ _ q0]; exact hLf q q0 q1 q2) (CH_s hC (by omega) (by omega) (by omega) (by omega) (mop_3 hx1 hx2 hx3))
                      exact lj (aN A + 2) 0 w L1 (by omega) (by omega) hLf hC
                exact li (aN A + 2) 0 w L1 (by omega) (by omega) hLf hC
          exact ls (eS (aE A) + 1) 0 false L1 (by omega) (by omega) (fun q _ a b => hLf q a b) (CH_0 (by omega) (fun k hk => hZ k (by omega)))
        · refine j_aload_n C dX7_check_23 rfl rfl ?_
          refine g_getR C (o0) fl_X7_88 (by rfl) dX7_check_24 ?_
          refine j_iload_n C dX7_check_27 rfl rfl ?_
          refine j_lconst (v := 0) C dX7_check_28 (by decide) ?_
          refine g_last C (a25) (by omega) (by decide) dX7_check_29 ?_
          refine j_aload_n C dX7_check_30 rfl rfl ?_
          refine g_getR C (o0) fl_X7_91 (by rfl) dX7_check_31 ?_
          refine j_iload_n C dX7_check_34 rfl rfl ?_
          refine j_lconst (v := 1) C dX7_check_35 (by decide) ?_
          refine g_last C (a26) (by omega) (by decide) dX7_check_36 ?_
          first | refine n_iinc (n := 1) C dX7_check_37 rfl (by decide) ?_ | refine j_iinc C dX7_check_37 rfl rfl (by decide) ?_
          refine j_goto (tgt := 17) C dX7_check_40 (by decide) ?_
          exact ih_lo (i + 1) _ (by omega) (by omega) (fun q a b => by rw [up2_ne _ b, up2_ne _ a]; exact hLf q a b) (i0_s hZ)
    exact lo 26 0 L (by omega) (by omega) (fun _ _ _ => rfl) (fun k hk => by omega)
  · refine j_bipush (v := (-2)) C dX7_check_8 (by decide) ?_
    exact j_iret C hr dX7_check_10 (by have hq : ¬ aT A 0 = 1 := fun q => h_5 ((eq_ans hok).mpr q); unfold checkR; rw [if_neg hq]; exact ⟨rfl, hRM⟩)
