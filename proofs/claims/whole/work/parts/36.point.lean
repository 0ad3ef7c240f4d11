/-! ===== the model: pointBy ===== -/
theorem lgc_q {x : Int64} : 0 < lg_cmp x 0 ↔ 0 < x := by
  unfold lg_cmp
  split
  · next h => exact ⟨fun _ => h, fun _ => by decide⟩
  · next h => split
              · exact ⟨fun q => absurd q (by decide), fun q => absurd q h⟩
              · exact ⟨fun q => absurd q (by decide), fun q => absurd q h⟩
theorem WF_11 : WF (1, 1) := ⟨show (1 : Int64) ≠ LEA by decide, show 0 < (1 : Int64).toInt by decide, by unfold gcdN; exact Nat.gcd_one_right _⟩
theorem WF_m1 : WF (-1, 1) := ⟨show (-1 : Int64) ≠ LEA by decide, show 0 < (1 : Int64).toInt by decide, by unfold gcdN; exact Nat.gcd_one_right _⟩
theorem WF_tw {e : Nat} (h : e ≤ 40) : WF (tw e, 1) := ⟨tw_ne e h, show 0 < (1 : Int64).toInt by decide, by unfold gcdN; exact Nat.gcd_one_right _⟩
theorem wt_1 {L : LL} {V : Nat → Fr} {p : Nat} {x : Int64} (h : ∀ j, j < 5 → (L 19 j, L 20 j) = V j) (hp : p < 5 → (V p).2 = 1) : ∀ j, j < 5 → (up2 L 19 p x 19 j, up2 L 19 p x 20 j) = va_up V p (x, 1) j := fun j hj => by
  rw [up2_at, if_pos rfl, up2_ne _ (by decide)]
  by_cases e : j = p
  · subst e; rw [if_pos rfl, va_up_self]; have h1 := congrArg Prod.snd (h j hj); have h2 := hp hj; exact Prod.ext rfl (h1.trans h2)
  · rw [if_neg e, va_up_ne _ _ e]; exact h j hj
/-- the point's numbers so far, of the last mark -/
def PTi (w : Bool) (op : Nat → Option Fr) (L1 : LL) (n k : Nat) : Prop := (w = true → ∃ q, 1 ≤ q ∧ q ≤ n ∧ op q = none) ∧ (w = false → ∀ q, 1 ≤ q → q < k → op q = some (L1 21 q, L1 22 q))
theorem PT_s {w : Bool} {op : Nat → Option Fr} {L1 : LL} {n k : Nat} {x : Bool × Fr} (h : PTi w op L1 n k) (hk : 1 ≤ k) (hkn : k ≤ n) (hx : x = mop w (op k)) : PTi x.1 op (up2 (up2 (setU L1 x.2) 21 k x.2.1) 22 k x.2.2) n (k + 1) := by
  cases w with
  | true => rw [hx, mop_t]; exact ⟨fun _ => h.1 rfl, (fun q => by cases q)⟩
  | false =>
    cases ho : op k with
    | none => rw [hx, ho, mop_n]; exact ⟨fun _ => ⟨k, hk, hkn, ho⟩, (fun q => by cases q)⟩
    | some z =>
      rw [hx, ho, mop_s]
      refine ⟨(fun q => by cases q), fun _ q q1 q2 => ?_⟩
      rw [up2_ne _ (show (21 : Nat) ≠ 22 by decide), up2_at, up2_at, if_pos rfl, if_pos rfl, up2_ne _ (show (22 : Nat) ≠ 21 by decide), setU_q _ _ (by decide), setU_q _ _ (by decide)]
      by_cases e : q = k
      · rw [if_pos e, if_pos e, e, ho]
      · rw [if_neg e, if_neg e]; exact h.2 rfl q q1 (by omega)
theorem up_21 {L : LL} {z : Fr} {q : Nat} {v : Int64} : up2 (setU L z) 21 q v 0 6 = z.2 := by rw [up2_ne _ (by decide)]; exact setU_6 _ _
theorem PT_q {n : Nat} {V : Nat → Fr} {L1 : LL} (h : PTi false (fun q => fDiv (V q) (V 0)) L1 n (n + 1)) : ∃ X, quoX n V = some X ∧ ∀ k, 1 ≤ k → k ≤ n → (L1 21 k, L1 22 k) = X k := by
  have h2 := h.2 rfl
  refine ⟨_, cif_t (fun k a b q => by have z := (h2 k a (by omega)).symm.trans q; cases z), fun k a b => ?_⟩
  show _ = if k = 0 then (1, 1) else (fDiv (V k) (V 0)).getD (0, 1)
  have := h2 k a (by omega)
  rw [if_neg (by omega), show fDiv (V k) (V 0) = _ from this]; rfl
theorem PT_qn {n : Nat} {V : Nat → Fr} {L1 : LL} {k : Nat} (h : PTi true (fun q => fDiv (V q) (V 0)) L1 n k) : quoX n V = none := by
  obtain ⟨q, a, b, c⟩ := h.1 rfl
  exact cif_f (fun z => z q a b c)
theorem PT_m {n e : Nat} {V : Nat → Fr} {L1 : LL} (h : PTi false (fun q => fMul (tw e, 1) (V q)) L1 n (n + 1)) : ∃ X, mulX n e V = some X ∧ X 0 = (1, 1) ∧ (∀ k, k ≤ n → WF (X k)) ∧ ∀ k, 1 ≤ k → k ≤ n → (L1 21 k, L1 22 k) = X k := by
  have h2 := h.2 rfl
  refine ⟨_, cif_t (fun k a b q => by have z := (h2 k a (by omega)).symm.trans q; cases z), rfl, fun k b => ?_, fun k a b => ?_⟩
  · show WF (if k = 0 then (1, 1) else (fMul (tw e, 1) (V k)).getD (0, 1))
    by_cases h0 : k = 0
    · rw [if_pos h0]; exact WF_11
    · have := h2 k (by omega) (by omega)
      rw [if_neg h0, show fMul (tw e, 1) (V k) = _ from this]; exact fMul_WF this
  · show _ = if k = 0 then (1, 1) else (fMul (tw e, 1) (V k)).getD (0, 1)
    have := h2 k a (by omega)
    rw [if_neg (by omega), show fMul (tw e, 1) (V k) = _ from this]; rfl
theorem PT_mn {n e : Nat} {V : Nat → Fr} {L1 : LL} {k : Nat} (h : PTi true (fun q => fMul (tw e, 1) (V q)) L1 n k) : mulX n e V = none := by
  obtain ⟨q, a, b, c⟩ := h.1 rfl
  exact cif_f (fun z => z q a b c)
/-- a point for isBelow: if all is well that of the multiples, else what stands there -/
theorem PT_X {n e : Nat} {V : Nat → Fr} {L1 : LL} {w : Bool} (h : PTi w (fun q => fMul (tw e, 1) (V q)) L1 n (n + 1)) : ∃ X : Nat → Fr, X 0 = (1, 1) ∧ (∀ k, 1 ≤ k → k ≤ n → (L1 21 k, L1 22 k) = X k) ∧ (w = false → mulX n e V = some X ∧ ∀ k, k ≤ n → WF (X k)) := by
  cases w with
  | true => exact ⟨fun k => if k = 0 then (1, 1) else (L1 21 k, L1 22 k), rfl, (fun k a b => by show _ = if k = 0 then (1, 1) else (L1 21 k, L1 22 k); rw [if_neg (by omega)]), (fun q => by cases q)⟩
  | false => obtain ⟨X, a, b, c, d⟩ := PT_m h; exact ⟨X, b, d, fun _ => ⟨a, c⟩⟩
def PBQ (T : Option (Nat → Fr)) (n : Nat) (I : II) (L : LL) (r : Int32) (I1 : II) (L1 : LL) : Prop := (∃ w1, setW I w1 = I1) ∧ (∀ q, q ≠ 0 → ¬ (19 ≤ q ∧ q ≤ 22) → L1 q = L q) ∧ ((r = b2i true ∧ ∃ X, T = some X ∧ ∀ k, 1 ≤ k → k ≤ n → (L1 21 k, L1 22 k) = X k) ∨ (r = b2i false ∧ T = none))
theorem ptE_s {n q e : Nat} {f : Nat → Int32} {V X : Nat → Fr} (h : mulX n e V = some X) : ptE n f V (q + 1) e = (woI f X n (n + 1) (0, 1)).bind (fun w => if w.1 < 0 then some X else ptE n f V q (e + 1)) := by rw [ptE, h]; rfl
theorem ptE_n {n q e : Nat} {f : Nat → Int32} {V : Nat → Fr} (h : mulX n e V = none) : ptE n f V (q + 1) e = none := by rw [ptE, h]; rfl
theorem pb_n {n e : Nat} {V X : Nat → Fr} {f : Nat → Int32} {L1 : LL} {w : Bool} (hPT : PTi w (fun q => fMul (tw e, 1) (V q)) L1 n (n + 1)) (hXf : w = false → mulX n e V = some X ∧ ∀ k, k ≤ n → WF (X k)) (h : w = true ∨ woI f X n (n + 1) (0, 1) = none) (he : e ≤ 40) : ptE n f V (41 - e) e = none := by
  rw [show 41 - e = (40 - e) + 1 by omega]
  cases w with
  | true => exact ptE_n (PT_mn hPT)
  | false =>
    rcases h with q | q
    · cases q
    · rw [ptE_s (hXf rfl).1, q]; rfl
set_option maxHeartbeats 4000000 in
set_option maxRecDepth 20000 in
theorem c_X7_pointBy (l : Launch) (G : GT) (rg : RgT) (I : II) (L : LL) (n fm kk : Nat) (jo : Option Nat) (f : Nat → Int32) (E : ES) (hms : isMS rg) (hn : I 0 0 = nI n) (hn4 : n < 5) (hw : I 0 7 = b2i false) (h8 : I 0 8 = b2i false) (hS : I 0 14 = nI (eS E)) (hS5 : eS E ≤ 5) (hX : RelX n I L E) (hQ : MQm n L (eM E)) (hEW : EW n E) (hfm : fm < 12) (hf : ∀ k, k < 25 → I 1 (25 * fm + k) = f k) (hkn : kk ≤ n) (hjn : ∀ j, jo = some j → j ≤ n) (hj1 : jo = none → I 0 21 = nI kk) (hj2 : ∀ j, jo = some j → I 0 21 = -1 ∧ I 0 22 = nI kk ∧ I 0 23 = nI j) : CtI l yX7_pointBy cX7_pointBy 4 (some FieldType.boolean) 5 G rg I L [.ref (gB G + 0), .int (nI fm)] (PBQ (pfO n f kk jo E) n I L) := by
  refine ctI_of [some (.ref (gB G + 0)), some (.int (nI fm)), none, none] rfl (Nat.le_of_ble_eq_true rfl) (by decide) ?_
  intro p e s m args below meth c C hr
  obtain ⟨o0, a1, a2, a3, a4, a5, a6, a7, a8, a9, a10, a11, a12, a13, a14, a15, a16, a17, a18, a19, a20, a21, a22, a23, a24, a25, a26⟩ := id hms
  have cont : ∀ (L2 : LL) (V0 : Nat → Fr), V0 = wit0 kk jo (eM E) → (∀ q, q ≠ 19 → q ≠ 20 → L2 q = L q) → (∀ j, j < 5 → (L2 19 j, L2 20 j) = V0 j) → (∀ j, j < 5 → WF (V0 j)) → J p l e (rmD 5) s m args below meth c (MQ below (QI G rg (PBQ (pfO n f kk jo E) n I L)) args s 0 0 (rg_A G rg)) 4 G rg 0 0 I L2 71 [some (.ref (gB G + 0)), some (.int (nI fm)), none, none] [] := by
    intro L2 V0 hV0e hL2 hV0 hVW0
    refine j_aload_n C dX7_pointBy_71 rfl rfl ?_
    refine g_cvV C vc_X7_230 (c_X7_goBack l G rg _ _ n E V0 hms hn hn4 hw h8 hS hS5 (hX.cong rfl rfl rfl (fun q q1 q2 => hL2 q (by omega) (by omega))) hEW hV0 hVW0) ⟨Nat.le_of_ble_eq_true rfl, Nat.le_of_ble_eq_true rfl⟩ (o0) rfl rfl (Nat.le_of_ble_eq_true rfl) ⟨Nat.zero_le _, Nat.zero_le _⟩ dX7_pointBy_72 (fun I_72 L_72 p_72 => ?_)
    obtain ⟨w1, V, rfl, hG1, hG2, hG3⟩ := p_72
    refine j_aload_n C dX7_pointBy_75 rfl rfl ?_
    refine g_cvI C vc_X7_154 (c_X7_isWrong l G rg _ _ w1 hms (setW_7 _ _) ((setW_k _ _ (by decide)).trans h8)) ⟨Nat.le_of_ble_eq_true rfl, Nat.le_of_ble_eq_true rfl⟩ (o0) rfl rfl (Nat.le_of_ble_eq_true rfl) ⟨Nat.zero_le _, Nat.zero_le _⟩ dX7_pointBy_76 (fun r_76 I_76 L_76 p_76 => ?_)
    obtain ⟨rfl, rfl, rfl⟩ := p_76
    first | refine n_if_eq (tgt := 84) C dX7_pointBy_79 (by decide) (fun h_79 => ?_) (fun h_79 => ?_) | refine j_if_eq (tgt := 84) C dX7_pointBy_79 (by decide) (fun h_79 => ?_) (fun h_79 => ?_)
    · subst h_79
      obtain ⟨hv1, hv2, hv3⟩ := hG3 rfl
      have hT : pfO n f kk jo E = ptO n f V := by unfold pfO; rw [← hV0e, ← hv3]; rfl
      have hLL : ∀ q, q ≠ 0 → ¬ (19 ≤ q ∧ q ≤ 22) → L_72 q = L q := (fun q q0 q1 => by rw [hG1 q q0 (by omega) (by omega)]; exact hL2 q (by omega) (by omega))
      refine j_aload_n C dX7_pointBy_84 rfl rfl ?_
      refine g_getR C (o0) fl_X7_70 (by rfl) dX7_pointBy_85 ?_
      refine j_iconst (v := nI 0) C dX7_pointBy_88 (by decide) ?_
      refine g_lald C (a19) (by decide) (by decide) dX7_pointBy_89 ?_
      refine t_l (congrArg Prod.fst (hv1 0 (by decide))) ?_
      refine j_lconst (v := 0) C dX7_pointBy_90 (by decide) ?_
      refine j_lc_eq (tgt := 172) C dX7_pointBy_91 dX7_pointBy_92 (by decide) (fun h_92 => ?_) (fun h_92 => ?_)
      · refine j_iconst (v := nI 0) C dX7_pointBy_172 (by decide) ?_
        refine j_istore_n C dX7_pointBy_173 rfl (by decide) ?_
        have le : ∀ (fuel : Nat) (e0 : Nat) (L4 : LL), 41 < fuel + e0 → e0 ≤ 41 → (∀ q, q ≠ 0 → q ≠ 21 → q ≠ 22 → L4 q = L_72 q) → ptE n f V (41 - e0) e0 = ptE n f V 41 0 → J p l e (rmD 5) s m args below meth c (MQ below (QI G rg (PBQ (pfO n f kk jo E) n I L)) args s 0 0 (rg_A G rg)) 4 G rg 0 0 (setW I false) L4 174 [some (.ref (gB G + 0)), some (.int (nI fm)), some (.int (nI e0)), none] [] := by
          intro fuel
          induction fuel with
          | zero => intro e0 L4 q1 q2 hL4 hpe; exfalso; omega
          | succ fuel ih_le =>
            intro e0 L4 q1 q2 hL4 hpe
            refine j_iload_n C dX7_pointBy_174 rfl rfl ?_
            refine j_bipush (v := nI 40) C dX7_pointBy_175 (by decide) ?_
            first | refine n_icmp_gt (tgt := 263) C (by omega) (by omega) dX7_pointBy_177 (by decide) (fun h_177 => ?_) (fun h_177 => ?_) | refine j_icmp_gt (tgt := 263) C dX7_pointBy_177 (by decide) (fun h_177 => ?_) (fun h_177 => ?_)
            · refine j_iconst (v := nI 0) C dX7_pointBy_263 (by decide) ?_
              exact j_zret C hr (by first | rfl | exact b2i_n _ rfl) dX7_pointBy_264 (⟨⟨_, rfl⟩, (fun q q0 q1 => by rw [hL4 q q0 (by omega) (by omega)]; exact hLL q q0 q1), Or.inr ⟨rfl, by rw [hT]; unfold ptO; rw [if_pos h_92, ← hpe];  rw [show 41 - e0 = 0 by omega]; rfl⟩⟩)
            · refine j_iconst (v := nI 1) C dX7_pointBy_180 (by decide) ?_
              refine j_istore_n C dX7_pointBy_181 rfl (by decide) ?_
              have lm : ∀ (fuel : Nat) (k : Nat) (w2 : Bool) (L3 : LL), n + 1 < fuel + k → 1 ≤ k → k ≤ n + 1 → (∀ q, q ≠ 0 → q ≠ 21 → q ≠ 22 → L3 q = L_72 q) → PTi w2 (fun q => fMul (tw e0, 1) (V q)) L3 n k → J p l e (rmD 5) s m args below meth c (MQ below (QI G rg (PBQ (pfO n f kk jo E) n I L)) args s 0 0 (rg_A G rg)) 4 G rg 0 0 (setW I w2) L3 182 [some (.ref (gB G + 0)), some (.int (nI fm)), some (.int (nI e0)), some (.int (nI k))] [] := by
                intro fuel
                induction fuel with
                | zero => intro k w2 L3 q1 q2 q3 hL3a hPT; exfalso; omega
                | succ fuel ih_lm =>
                  intro k w2 L3 q1 q2 q3 hL3a hPT
                  have hL3 : ∀ q, q ≠ 0 → (q ≠ 21 ∧ q ≠ 22) → L3 q = L_72 q := fun q a b => hL3a q a b.1 b.2
                  refine j_iload_n C dX7_pointBy_182 rfl rfl ?_
                  refine j_aload_n C dX7_pointBy_183 rfl rfl ?_
                  refine g_getI C (o0) fl_X7_7 (by rfl) dX7_pointBy_184 ?_
                  refine t_i (y := nI n) ((setW_k _ _ (by decide)).trans hn) ?_
                  first | refine n_icmp_gt (tgt := 236) C (by omega) (by omega) dX7_pointBy_187 (by decide) (fun h_187 => ?_) (fun h_187 => ?_) | refine j_icmp_gt (tgt := 236) C dX7_pointBy_187 (by decide) (fun h_187 => ?_) (fun h_187 => ?_)
                  · have hkn1 : k = n + 1 := by omega
                    subst hkn1
                    obtain ⟨X, hX0, hXL, hXf⟩ := PT_X hPT
                    refine j_aload_n C dX7_pointBy_236 rfl rfl ?_
                    refine j_iload_n C dX7_pointBy_237 rfl rfl ?_
                    refine g_cvI C vc_X7_233 (c_X7_isBelow l G rg _ _ n fm f X w2 hms ((setW_k _ _ (by decide)).trans hn) hn4 (setW_7 _ _) ((setW_k _ _ (by decide)).trans h8) hfm (fun q hq => (congrFun (setW_q _ _ (by decide)) _).trans (hf q hq)) hX0 hXL (fun q => (hXf q).2)) ⟨Nat.le_of_ble_eq_true rfl, Nat.le_of_ble_eq_true rfl⟩ (o0) rfl rfl (Nat.le_of_ble_eq_true rfl) ⟨Nat.zero_le _, Nat.zero_le _⟩ dX7_pointBy_238 (fun r_238 I_238 L_238 p_238 => ?_)
                    obtain ⟨w3, e1, b1, b2, b3, b4⟩ := p_238
                    rw [setW_2] at e1
                    subst e1
                    have hT2 : w3 = true → ptE n f V (41 - e0) e0 = none := fun q => pb_n hPT hXf (b3 q) (by omega)
                    refine j_istore_n C dX7_pointBy_241 rfl (by decide) ?_
                    refine j_aload_n C dX7_pointBy_242 rfl rfl ?_
                    refine g_cvI C vc_X7_154 (c_X7_isWrong l G rg _ _ w3 hms (setW_7 _ _) ((setW_k _ _ (by decide)).trans h8)) ⟨Nat.le_of_ble_eq_true rfl, Nat.le_of_ble_eq_true rfl⟩ (o0) rfl rfl (Nat.le_of_ble_eq_true rfl) ⟨Nat.zero_le _, Nat.zero_le _⟩ dX7_pointBy_243 (fun r_243 I_243 L_243 p_243 => ?_)
                    obtain ⟨rfl, rfl, rfl⟩ := p_243
                    first | refine n_if_eq (tgt := 251) C dX7_pointBy_246 (by decide) (fun h_246 => ?_) (fun h_246 => ?_) | refine j_if_eq (tgt := 251) C dX7_pointBy_246 (by decide) (fun h_246 => ?_) (fun h_246 => ?_)
                    · subst h_246
                      obtain ⟨hw2, z, hz, hr238⟩ := b4 rfl
                      subst hw2
                      obtain ⟨hmx, hXW⟩ := hXf rfl
                      have hpe2 : ptE n f V (41 - e0) e0 = if z.1 < 0 then some X else ptE n f V (40 - e0) (e0 + 1) := by rw [show 41 - e0 = (40 - e0) + 1 by omega, ptE_s hmx, hz]; rfl
                      subst hr238
                      refine j_iload_n C dX7_pointBy_251 rfl rfl ?_
                      first | refine n_if_eq (tgt := 257) C dX7_pointBy_252 (by decide) (fun h_252 => ?_) (fun h_252 => ?_) | refine j_if_eq (tgt := 257) C dX7_pointBy_252 (by decide) (fun h_252 => ?_) (fun h_252 => ?_)
                      · first | refine n_iinc (n := 1) C dX7_pointBy_257 rfl (by decide) ?_ | refine j_iinc C dX7_pointBy_257 rfl rfl (by decide) ?_
                        refine j_goto (tgt := 174) C dX7_pointBy_260 (by decide) ?_
                        refine j_rm 3 ?_
                        exact ih_le (e0 + 1) _ (by omega) (by omega) (fun q q0 q1 q2 => by rw [b1 q q0 q1 q2]; exact hL3a q q0 q1 q2) (by rw [← hpe, hpe2, if_neg (of_decide_eq_false h_252), show 41 - (e0 + 1) = 40 - e0 by omega])
                      · refine j_iconst (v := nI 1) C dX7_pointBy_255 (by decide) ?_
                        exact j_zret C hr (by first | rfl | exact b2i_n _ rfl) dX7_pointBy_256 (⟨⟨_, rfl⟩, (fun q q0 q1 => by rw [b1 q q0 (by omega) (by omega), hL3a q q0 (by omega) (by omega)]; exact hLL q q0 q1), Or.inl ⟨rfl, X, by rw [hT]; unfold ptO; rw [if_pos h_92, ← hpe];  rw [hpe2, if_pos (of_decide_eq_true h_252)], fun k k1 k2 => (b2 k k1).trans (hXL k k1 k2)⟩⟩)
                    · refine j_iconst (v := nI 0) C dX7_pointBy_249 (by decide) ?_
                      exact j_zret C hr (by first | rfl | exact b2i_n _ rfl) dX7_pointBy_250 (⟨⟨_, rfl⟩, (fun q q0 q1 => by rw [b1 q q0 (by omega) (by omega), hL3a q q0 (by omega) (by omega)]; exact hLL q q0 q1), Or.inr ⟨rfl, by rw [hT]; unfold ptO; rw [if_pos h_92, ← hpe];  exact hT2 h_246⟩⟩)
                  · refine j_aload_n C dX7_pointBy_190 rfl rfl ?_
                    refine j_lconst (v := 1) C dX7_pointBy_191 (by decide) ?_
                    refine j_iload_n C dX7_pointBy_192 rfl rfl ?_
                    refine j_lshl C dX7_pointBy_193 ?_
                    refine t_l (show _ = tw e0 from rfl) ?_
                    refine j_lconst (v := 1) C dX7_pointBy_194 (by decide) ?_
                    refine j_aload_n C dX7_pointBy_195 rfl rfl ?_
                    refine g_getR C (o0) fl_X7_70 (by rfl) dX7_pointBy_196 ?_
                    refine j_iload_n C dX7_pointBy_199 rfl rfl ?_
                    refine g_lald C (a19) (by omega) (by decide) dX7_pointBy_200 ?_
                    refine t_l (y := (V k).1) (by rw [hL3 19 (by decide) (by decide)]; exact congrArg Prod.fst (hv1 k (by omega))) ?_
                    refine j_aload_n C dX7_pointBy_201 rfl rfl ?_
                    refine g_getR C (o0) fl_X7_73 (by rfl) dX7_pointBy_202 ?_
                    refine j_iload_n C dX7_pointBy_205 rfl rfl ?_
                    refine g_lald C (a20) (by omega) (by decide) dX7_pointBy_206 ?_
                    refine t_l (y := (V k).2) (by rw [hL3 20 (by decide) (by decide)]; exact congrArg Prod.snd (hv1 k (by omega))) ?_
                    refine g_cvV C vc_X7_179 (c_X7_product l G rg _ _ w2 _ _ _ _ hms (setW_7 _ _) ((setW_k _ _ (by decide)).trans h8) (fun _ => WF_tw (by omega)) (fun _ => hv2 k (by omega))) ⟨Nat.le_of_ble_eq_true rfl, Nat.le_of_ble_eq_true rfl⟩ (o0) rfl rfl (Nat.le_of_ble_eq_true rfl) ⟨Nat.zero_le _, Nat.zero_le _⟩ dX7_pointBy_207 (fun I_207 L_207 p_207 => ?_)
                    obtain ⟨e1, e2⟩ := p_207
                    rw [setW_2] at e1
                    obtain ⟨x1, hx1⟩ : ∃ x, x = mop w2 (fMul (tw e0, 1) (V k)) := ⟨_, rfl⟩
                    change setW I (mop w2 (fMul (tw e0, 1) (V k))).1 = _ at e1
                    change setU L3 (mop w2 (fMul (tw e0, 1) (V k))).2 = _ at e2
                    rw [← hx1] at e1 e2
                    subst e1
                    subst e2
                    refine j_aload_n C dX7_pointBy_210 rfl rfl ?_
                    refine g_getR C (o0) fl_X7_76 (by rfl) dX7_pointBy_211 ?_
                    refine j_iload_n C dX7_pointBy_214 rfl rfl ?_
                    refine j_aload_n C dX7_pointBy_215 rfl rfl ?_
                    refine g_getL C (o0) fl_X7_147 (by rfl) dX7_pointBy_216 ?_
                    refine t_l (setU_5 _ _) ?_
                    refine g_last C (a21) (by omega) (by decide) dX7_pointBy_219 ?_
                    refine j_aload_n C dX7_pointBy_220 rfl rfl ?_
                    refine g_getR C (o0) fl_X7_79 (by rfl) dX7_pointBy_221 ?_
                    refine j_iload_n C dX7_pointBy_224 rfl rfl ?_
                    refine j_aload_n C dX7_pointBy_225 rfl rfl ?_
                    refine g_getL C (o0) fl_X7_151 (by rfl) dX7_pointBy_226 ?_
                    refine t_l up_21 ?_
                    refine g_last C (a22) (by omega) (by decide) dX7_pointBy_229 ?_
                    first | refine n_iinc (n := 1) C dX7_pointBy_230 rfl (by decide) ?_ | refine j_iinc C dX7_pointBy_230 rfl rfl (by decide) ?_
                    refine j_goto (tgt := 182) C dX7_pointBy_233 (by decide) ?_
                    exact ih_lm (k + 1) x1.1 _ (by omega) (by omega) (by omega) (fun q q0 q1 q2 => by rw [up2_ne _ q2, up2_ne _ q1, setU_q _ _ q0]; exact hL3a q q0 q1 q2) (PT_s hPT (by omega) (by omega) hx1)
              exact lm (n + 2) 1 false L4 (by omega) (by omega) (by omega) hL4 ⟨(fun q => by cases q), fun _ q a b => by omega⟩
        exact le 42 0 L_72 (by omega) (by omega) (fun _ _ _ _ => rfl) rfl
      · refine j_iconst (v := nI 1) C dX7_pointBy_95 (by decide) ?_
        refine j_istore_n C dX7_pointBy_96 rfl (by decide) ?_
        have lq : ∀ (fuel : Nat) (k : Nat) (w2 : Bool) (L3 : LL), n + 1 < fuel + k → 1 ≤ k → k ≤ n + 1 → (∀ q, q ≠ 0 → q ≠ 21 → q ≠ 22 → L3 q = L_72 q) → PTi w2 (fun q => fDiv (V q) (V 0)) L3 n k → J p l e (rmD 5) s m args below meth c (MQ below (QI G rg (PBQ (pfO n f kk jo E) n I L)) args s 0 0 (rg_A G rg)) 4 G rg 0 0 (setW I w2) L3 97 [some (.ref (gB G + 0)), some (.int (nI fm)), some (.int (nI k)), none] [] := by
          intro fuel
          induction fuel with
          | zero => intro k w2 L3 q1 q2 q3 hL3a hPT; exfalso; omega
          | succ fuel ih_lq =>
            intro k w2 L3 q1 q2 q3 hL3a hPT
            have hL3 : ∀ q, q ≠ 0 → (q ≠ 21 ∧ q ≠ 22) → L3 q = L_72 q := fun q a b => hL3a q a b.1 b.2
            refine j_iload_n C dX7_pointBy_97 rfl rfl ?_
            refine j_aload_n C dX7_pointBy_98 rfl rfl ?_
            refine g_getI C (o0) fl_X7_7 (by rfl) dX7_pointBy_99 ?_
            refine t_i (y := nI n) ((setW_k _ _ (by decide)).trans hn) ?_
            first | refine n_icmp_gt (tgt := 159) C (by omega) (by omega) dX7_pointBy_102 (by decide) (fun h_102 => ?_) (fun h_102 => ?_) | refine j_icmp_gt (tgt := 159) C dX7_pointBy_102 (by decide) (fun h_102 => ?_) (fun h_102 => ?_)
            · refine j_aload_n C dX7_pointBy_159 rfl rfl ?_
              refine g_cvI C vc_X7_154 (c_X7_isWrong l G rg _ _ w2 hms (setW_7 _ _) ((setW_k _ _ (by decide)).trans h8)) ⟨Nat.le_of_ble_eq_true rfl, Nat.le_of_ble_eq_true rfl⟩ (o0) rfl rfl (Nat.le_of_ble_eq_true rfl) ⟨Nat.zero_le _, Nat.zero_le _⟩ dX7_pointBy_160 (fun r_160 I_160 L_160 p_160 => ?_)
              obtain ⟨rfl, rfl, rfl⟩ := p_160
              first | refine n_if_ne (tgt := 170) C dX7_pointBy_163 (by decide) (fun h_163 => ?_) (fun h_163 => ?_) | refine j_if_ne (tgt := 170) C dX7_pointBy_163 (by decide) (fun h_163 => ?_) (fun h_163 => ?_)
              · refine j_iconst (v := nI 0) C dX7_pointBy_170 (by decide) ?_
                exact j_zret C hr (by first | rfl | exact b2i_n _ rfl) dX7_pointBy_171 (by subst h_163; first | exact ⟨⟨_, rfl⟩, (fun q q0 q1 => by rw [hL3a q q0 (by omega) (by omega)]; exact hLL q q0 q1), Or.inr ⟨rfl, by rw [hT]; unfold ptO; rw [if_neg h_92]; exact PT_qn hPT⟩⟩ | (refine ⟨⟨_, rfl⟩, (fun q q0 q1 => by rw [hL3a q q0 (by omega) (by omega)]; exact hLL q q0 q1), Or.inl ⟨rfl, ?_⟩⟩; rw [hT]; unfold ptO; rw [if_neg h_92]; exact PT_q (by rw [show n + 1 = k by omega]; exact hPT)))
              · refine j_iconst (v := nI 1) C dX7_pointBy_166 (by decide) ?_
                refine j_goto (tgt := 171) C dX7_pointBy_167 (by decide) ?_
                exact j_zret C hr (by first | rfl | exact b2i_n _ rfl) dX7_pointBy_171 (by subst h_163; first | exact ⟨⟨_, rfl⟩, (fun q q0 q1 => by rw [hL3a q q0 (by omega) (by omega)]; exact hLL q q0 q1), Or.inr ⟨rfl, by rw [hT]; unfold ptO; rw [if_neg h_92]; exact PT_qn hPT⟩⟩ | (refine ⟨⟨_, rfl⟩, (fun q q0 q1 => by rw [hL3a q q0 (by omega) (by omega)]; exact hLL q q0 q1), Or.inl ⟨rfl, ?_⟩⟩; rw [hT]; unfold ptO; rw [if_neg h_92]; exact PT_q (by rw [show n + 1 = k by omega]; exact hPT)))
            · refine j_aload_n C dX7_pointBy_105 rfl rfl ?_
              refine j_aload_n C dX7_pointBy_106 rfl rfl ?_
              refine g_getR C (o0) fl_X7_70 (by rfl) dX7_pointBy_107 ?_
              refine j_iload_n C dX7_pointBy_110 rfl rfl ?_
              refine g_lald C (a19) (by omega) (by decide) dX7_pointBy_111 ?_
              refine t_l (y := (V k).1) (by rw [hL3 19 (by decide) (by decide)]; exact congrArg Prod.fst (hv1 k (by omega))) ?_
              refine j_aload_n C dX7_pointBy_112 rfl rfl ?_
              refine g_getR C (o0) fl_X7_73 (by rfl) dX7_pointBy_113 ?_
              refine j_iload_n C dX7_pointBy_116 rfl rfl ?_
              refine g_lald C (a20) (by omega) (by decide) dX7_pointBy_117 ?_
              refine t_l (y := (V k).2) (by rw [hL3 20 (by decide) (by decide)]; exact congrArg Prod.snd (hv1 k (by omega))) ?_
              refine j_aload_n C dX7_pointBy_118 rfl rfl ?_
              refine g_getR C (o0) fl_X7_70 (by rfl) dX7_pointBy_119 ?_
              refine j_iconst (v := nI 0) C dX7_pointBy_122 (by decide) ?_
              refine g_lald C (a19) (by decide) (by decide) dX7_pointBy_123 ?_
              refine t_l (y := (V 0).1) (by rw [hL3 19 (by decide) (by decide)]; exact congrArg Prod.fst (hv1 0 (by omega))) ?_
              refine j_aload_n C dX7_pointBy_124 rfl rfl ?_
              refine g_getR C (o0) fl_X7_73 (by rfl) dX7_pointBy_125 ?_
              refine j_iconst (v := nI 0) C dX7_pointBy_128 (by decide) ?_
              refine g_lald C (a20) (by decide) (by decide) dX7_pointBy_129 ?_
              refine t_l (y := (V 0).2) (by rw [hL3 20 (by decide) (by decide)]; exact congrArg Prod.snd (hv1 0 (by omega))) ?_
              refine g_cvV C vc_X7_175 (c_X7_quotient l G rg _ _ w2 _ _ _ _ hms (setW_7 _ _) ((setW_k _ _ (by decide)).trans h8) (fun _ => hv2 k (by omega)) (fun _ => hv2 0 (by omega)) (fun _ => h_92)) ⟨Nat.le_of_ble_eq_true rfl, Nat.le_of_ble_eq_true rfl⟩ (o0) rfl rfl (Nat.le_of_ble_eq_true rfl) ⟨Nat.zero_le _, Nat.zero_le _⟩ dX7_pointBy_130 (fun I_130 L_130 p_130 => ?_)
              obtain ⟨e1, e2⟩ := p_130
              rw [setW_2] at e1
              obtain ⟨x1, hx1⟩ : ∃ x, x = mop w2 (fDiv (V k) (V 0)) := ⟨_, rfl⟩
              change setW I (mop w2 (fDiv (V k) (V 0))).1 = _ at e1
              change setU L3 (mop w2 (fDiv (V k) (V 0))).2 = _ at e2
              rw [← hx1] at e1 e2
              subst e1
              subst e2
              refine j_aload_n C dX7_pointBy_133 rfl rfl ?_
              refine g_getR C (o0) fl_X7_76 (by rfl) dX7_pointBy_134 ?_
              refine j_iload_n C dX7_pointBy_137 rfl rfl ?_
              refine j_aload_n C dX7_pointBy_138 rfl rfl ?_
              refine g_getL C (o0) fl_X7_147 (by rfl) dX7_pointBy_139 ?_
              refine t_l (setU_5 _ _) ?_
              refine g_last C (a21) (by omega) (by decide) dX7_pointBy_142 ?_
              refine j_aload_n C dX7_pointBy_143 rfl rfl ?_
              refine g_getR C (o0) fl_X7_79 (by rfl) dX7_pointBy_144 ?_
              refine j_iload_n C dX7_pointBy_147 rfl rfl ?_
              refine j_aload_n C dX7_pointBy_148 rfl rfl ?_
              refine g_getL C (o0) fl_X7_151 (by rfl) dX7_pointBy_149 ?_
              refine t_l up_21 ?_
              refine g_last C (a22) (by omega) (by decide) dX7_pointBy_152 ?_
              first | refine n_iinc (n := 1) C dX7_pointBy_153 rfl (by decide) ?_ | refine j_iinc C dX7_pointBy_153 rfl rfl (by decide) ?_
              refine j_goto (tgt := 97) C dX7_pointBy_156 (by decide) ?_
              exact ih_lq (k + 1) x1.1 _ (by omega) (by omega) (by omega) (fun q q0 q1 q2 => by rw [up2_ne _ q2, up2_ne _ q1, setU_q _ _ q0]; exact hL3a q q0 q1 q2) (PT_s hPT (by omega) (by omega) hx1)
        exact lq (n + 2) 1 false L_72 (by omega) (by omega) (by omega) (fun _ _ _ _ => rfl) ⟨(fun q => by cases q), fun _ q a b => by omega⟩
    · refine j_iconst (v := nI 0) C dX7_pointBy_82 (by decide) ?_
      exact j_zret C hr (by first | rfl | exact b2i_n _ rfl) dX7_pointBy_83 (⟨⟨_, rfl⟩, (fun q q0 q1 => by rw [hG1 q q0 (by omega) (by omega)]; exact hL2 q (by omega) (by omega)), Or.inr ⟨rfl, by unfold pfO; rw [← hV0e, hG2 h_79]; rfl⟩⟩)
  cases jo with
  | none =>
    refine j_aload_n C dX7_pointBy_0 rfl rfl ?_
    refine g_cvV C vc_X7_227 (c_X7_noWitness l G rg _ _ hms) ⟨Nat.le_of_ble_eq_true rfl, Nat.le_of_ble_eq_true rfl⟩ (o0) rfl rfl (Nat.le_of_ble_eq_true rfl) ⟨Nat.zero_le _, Nat.zero_le _⟩ dX7_pointBy_1 (fun I_1 L_1 p_1 => ?_)
    obtain ⟨rfl, hW1, hW2⟩ := p_1
    refine j_aload_n C dX7_pointBy_4 rfl rfl ?_
    refine g_getI C (o0) fl_X7_202 (by rfl) dX7_pointBy_5 ?_
    first | refine t_i (hj1 rfl) ?_ | refine t_i (hj2 _ rfl).1 ?_
    refine j_if_lt (tgt := 24) C dX7_pointBy_8 (by decide) (fun h_8 => ?_) (fun h_8 => ?_)
    · exact absurd h_8 (dI_lt (by omega))
    · refine j_aload_n C dX7_pointBy_11 rfl rfl ?_
      refine g_getR C (o0) fl_X7_70 (by rfl) dX7_pointBy_12 ?_
      refine j_aload_n C dX7_pointBy_15 rfl rfl ?_
      refine g_getI C (o0) fl_X7_202 (by rfl) dX7_pointBy_16 ?_
      refine t_i (hj1 rfl) ?_
      refine j_lconst (v := 1) C dX7_pointBy_19 (by decide) ?_
      refine g_last C (a19) (by omega) (by decide) dX7_pointBy_20 ?_
      refine j_goto (tgt := 71) C dX7_pointBy_21 (by decide) ?_
      exact cont _ (va_up z0 kk (1, 1)) rfl (fun q q1 q2 => by rw [up2_ne _ q1]; exact hW1 q q1 q2) (wt_1 hW2 (fun _ => rfl)) (fun j hj => by by_cases e : j = kk; (rw [e, va_up_self]; exact WF_11); (rw [va_up_ne _ _ e]; exact WF_01))
  | some jv =>
    refine j_aload_n C dX7_pointBy_0 rfl rfl ?_
    refine g_cvV C vc_X7_227 (c_X7_noWitness l G rg _ _ hms) ⟨Nat.le_of_ble_eq_true rfl, Nat.le_of_ble_eq_true rfl⟩ (o0) rfl rfl (Nat.le_of_ble_eq_true rfl) ⟨Nat.zero_le _, Nat.zero_le _⟩ dX7_pointBy_1 (fun I_1 L_1 p_1 => ?_)
    obtain ⟨rfl, hW1, hW2⟩ := p_1
    refine j_aload_n C dX7_pointBy_4 rfl rfl ?_
    refine g_getI C (o0) fl_X7_202 (by rfl) dX7_pointBy_5 ?_
    first | refine t_i (hj1 rfl) ?_ | refine t_i (hj2 _ rfl).1 ?_
    refine j_if_lt (tgt := 24) C dX7_pointBy_8 (by decide) (fun h_8 => ?_) (fun h_8 => ?_)
    · refine j_aload_n C dX7_pointBy_24 rfl rfl ?_
      refine g_getR C (o0) fl_X7_70 (by rfl) dX7_pointBy_25 ?_
      refine j_aload_n C dX7_pointBy_28 rfl rfl ?_
      refine g_getI C (o0) fl_X7_189 (by rfl) dX7_pointBy_29 ?_
      refine t_i (hj2 _ rfl).2.1 ?_
      refine j_lconst (v := 1) C dX7_pointBy_32 (by decide) ?_
      refine g_last C (a19) (by omega) (by decide) dX7_pointBy_33 ?_
      refine j_aload_n C dX7_pointBy_34 rfl rfl ?_
      refine g_getR C (o0) fl_X7_70 (by rfl) dX7_pointBy_35 ?_
      refine j_aload_n C dX7_pointBy_38 rfl rfl ?_
      refine g_getI C (o0) fl_X7_192 (by rfl) dX7_pointBy_39 ?_
      refine t_i (hj2 _ rfl).2.2 ?_
      refine j_aload_n C dX7_pointBy_42 rfl rfl ?_
      refine g_getR C (o0) fl_X7_20 (by rfl) dX7_pointBy_43 ?_
      refine j_iconst (v := nI 5) C dX7_pointBy_46 (by decide) ?_
      refine j_aload_n C dX7_pointBy_47 rfl rfl ?_
      refine g_getI C (o0) fl_X7_189 (by rfl) dX7_pointBy_48 ?_
      refine t_i (hj2 _ rfl).2.1 ?_
      first | refine n_imul C dX7_pointBy_51 ?_ | refine j_imul C dX7_pointBy_51 ?_
      refine j_aload_n C dX7_pointBy_52 rfl rfl ?_
      refine g_getI C (o0) fl_X7_192 (by rfl) dX7_pointBy_53 ?_
      refine t_i (hj2 _ rfl).2.2 ?_
      first | refine n_iadd C dX7_pointBy_56 ?_ | refine j_iadd C dX7_pointBy_56 ?_
      refine g_lald C (a3) (by have := hjn _ rfl; omega) (by decide) dX7_pointBy_57 ?_
      refine t_l (y := (eM E kk jv).1) (by rw [up2_ne _ (by decide), hW1 3 (by decide) (by decide)]; exact congrArg Prod.fst (hQ _ _ hkn (hjn _ rfl))) ?_
      refine j_lconst (v := 0) C dX7_pointBy_58 (by decide) ?_
      refine j_lc_le (tgt := 69) C dX7_pointBy_59 dX7_pointBy_60 (by decide) (fun h_60 => ?_) (fun h_60 => ?_)
      · refine j_lconst (v := 1) C dX7_pointBy_69 (by decide) ?_
        refine g_last C (a19) (by have := hjn _ rfl; omega) (by decide) dX7_pointBy_70 ?_
        refine cont _ (va_up (va_up z0 kk (1, 1)) jv (if 0 < lg_cmp (eM E kk jv).1 0 then (-1, 1) else (1, 1))) rfl (fun q q1 q2 => by rw [up2_ne _ q1, up2_ne _ q1]; exact hW1 q q1 q2) ?_ (fun j hj => by by_cases e : j = jv; (rw [e, va_up_self]; split; exact WF_m1; exact WF_11); (rw [va_up_ne _ _ e]; by_cases e : j = kk; (rw [e, va_up_self]; exact WF_11); (rw [va_up_ne _ _ e]; exact WF_01)))
        have hv2 : ∀ p, p < 5 → (va_up z0 kk (1, 1) p).2 = 1 := fun p _ => by by_cases e : p = kk; (rw [e, va_up_self]); (rw [va_up_ne _ _ e]; rfl)
        first
        | (rw [if_neg (fun q => absurd (lgc_q.mp q) (Int64.not_lt.mpr h_60))]; exact wt_1 (wt_1 hW2 (fun _ => rfl)) (hv2 _))
        | (rw [if_pos (lgc_q.mpr (Int64.not_le.mp h_60))]; exact wt_1 (wt_1 hW2 (fun _ => rfl)) (hv2 _))
      · refine j_ldc2 C kc_X7_137 dX7_pointBy_63 ?_
        refine j_goto (tgt := 70) C dX7_pointBy_66 (by decide) ?_
        refine g_last C (a19) (by have := hjn _ rfl; omega) (by decide) dX7_pointBy_70 ?_
        refine cont _ (va_up (va_up z0 kk (1, 1)) jv (if 0 < lg_cmp (eM E kk jv).1 0 then (-1, 1) else (1, 1))) rfl (fun q q1 q2 => by rw [up2_ne _ q1, up2_ne _ q1]; exact hW1 q q1 q2) ?_ (fun j hj => by by_cases e : j = jv; (rw [e, va_up_self]; split; exact WF_m1; exact WF_11); (rw [va_up_ne _ _ e]; by_cases e : j = kk; (rw [e, va_up_self]; exact WF_11); (rw [va_up_ne _ _ e]; exact WF_01)))
        have hv2 : ∀ p, p < 5 → (va_up z0 kk (1, 1) p).2 = 1 := fun p _ => by by_cases e : p = kk; (rw [e, va_up_self]); (rw [va_up_ne _ _ e]; rfl)
        first
        | (rw [if_neg (fun q => absurd (lgc_q.mp q) (Int64.not_lt.mpr h_60))]; exact wt_1 (wt_1 hW2 (fun _ => rfl)) (hv2 _))
        | (rw [if_pos (lgc_q.mpr (Int64.not_le.mp h_60))]; exact wt_1 (wt_1 hW2 (fun _ => rfl)) (hv2 _))
    · exact absurd (show (-1 : Int32) < 0 by decide) h_8
