/-! ===== the model: isDoneBy ===== -/
def FD (I I1 : II) (L L1 : LL) : Prop := (∀ q, q ≠ 0 → q ≠ 7 → q ≠ 8 → q ≠ 13 → I1 q = I q) ∧ (∀ k, k ≠ 7 → k ≠ 14 → k ≠ 21 → k ≠ 22 → k ≠ 23 → I1 0 k = I 0 k) ∧ (∀ q, q ≠ 0 → ¬ (3 ≤ q ∧ q ≤ 6) → ¬ (9 ≤ q ∧ q ≤ 12) → q ≠ 23 → q ≠ 24 → L1 q = L q)
theorem FD.rf {I : II} {L : LL} : FD I I L L := ⟨fun _ _ _ _ _ => rfl, fun _ _ _ _ _ _ => rfl, fun _ _ _ _ _ _ => rfl⟩
theorem FD.tr {I I1 I2 : II} {L L1 L2 : LL} (h : FD I I1 L L1) (h2 : FD I1 I2 L1 L2) : FD I I2 L L2 := ⟨fun q a b c d => (h2.1 q a b c d).trans (h.1 q a b c d), fun q a b c d e => (h2.2.1 q a b c d e).trans (h.2.1 q a b c d e), fun q a b c d e => (h2.2.2 q a b c d e).trans (h.2.2 q a b c d e)⟩
theorem FM.fd {I I1 : II} {L L1 : LL} (h : FM I I1 L L1) : FD I I1 L L1 := ⟨h.1, h.2.1, fun q a b c _ _ => h.2.2 q a (by omega) (by omega) c⟩
def TLm (g c : Nat → Int32) (mu : Fr) (n : Nat) (L1 : LL) (i j : Nat) : Prop := ∀ a b, a ≤ n → b ≤ n → (prc i j a b → tlO g c mu a b = some (L1 3 (5 * a + b), L1 4 (5 * a + b))) ∧ (¬ prc i j a b → (L1 3 (5 * a + b), L1 4 (5 * a + b)) = hv (g (ix a b)) a b)
def DNi (g c : Nat → Int32) (mu : Fr) (n : Nat) (L1 : LL) (w : Bool) (i j : Nat) : Prop := (w = true → ∃ a b, a ≤ n ∧ b ≤ n ∧ tlO g c mu a b = none) ∧ (w = false → TLm g c mu n L1 i j)
theorem DN_n {g c : Nat → Int32} {mu : Fr} {n i j : Nat} {L1 : LL} {w : Bool} (h : DNi g c mu n L1 w i j) (hj : n < j) : DNi g c mu n L1 w (i + 1) (i + 1) := ⟨h.1, fun q a b ha hb => ⟨fun z => (h.2 q a b ha hb).1 (by unfold prc at z ⊢; omega), fun z => (h.2 q a b ha hb).2 (fun y => z (by unfold prc at y ⊢; omega))⟩⟩
theorem DN_0 {g c : Nat → Int32} {mu : Fr} {n : Nat} {L1 : LL} (h : MQm n L1 (fun i j => hv (g (ix i j)) i j)) : DNi g c mu n L1 false 0 0 := ⟨(fun q => by cases q), fun _ a b ha hb => ⟨fun z => by unfold prc at z; omega, fun _ => h a b ha hb⟩⟩
theorem TLm_s {g c : Nat → Int32} {mu : Fr} {n i j : Nat} {L1 L2 : LL} {z : Fr} (h : TLm g c mu n L1 i j) (hn : n < 5) (hij : i ≤ j) (hj : j ≤ n) (hz : tlO g c mu i j = some z) (hq : ∀ q, (L2 3 q, L2 4 q) = if q = 5 * j + i ∨ q = 5 * i + j then z else (L1 3 q, L1 4 q)) : TLm g c mu n L2 i (j + 1) := by
  intro a b ha hb
  rw [hq]
  by_cases e1 : a = i ∧ b = j
  · obtain ⟨rfl, rfl⟩ := e1
    rw [if_pos (Or.inr rfl)]
    exact ⟨fun _ => hz, fun q => absurd (show prc a (b + 1) a b by unfold prc; omega) q⟩
  · by_cases e2 : a = j ∧ b = i
    · obtain ⟨rfl, rfl⟩ := e2
      rw [if_pos (Or.inl rfl)]
      exact ⟨fun _ => by rw [tlO_comm]; exact hz, fun q => absurd (show prc b (a + 1) a b by unfold prc; omega) q⟩
    · rw [if_neg (by omega)]
      exact ⟨fun q => (h a b ha hb).1 (by unfold prc at q ⊢; omega), fun q => (h a b ha hb).2 (fun z => q (by unfold prc at z ⊢; omega))⟩
theorem DN_s {g c : Nat → Int32} {mu : Fr} {n i j : Nat} {L1 L2 : LL} {w : Bool} {x1 x2 : Bool × Fr} (h : DNi g c mu n L1 w i j) (hn : n < 5) (hij : i ≤ j) (hj : j ≤ n) (hx1 : x1 = mop w (fMul mu (hv (c (ix i j)) i j))) (hx2 : x2 = mop x1.1 (fSub (L1 3 (5 * i + j), L1 4 (5 * i + j)) x1.2)) (hq : ∀ q, (L2 3 q, L2 4 q) = if q = 5 * j + i ∨ q = 5 * i + j then (setU L1 x2.2 0 5, setU L1 x2.2 0 6) else (setU L1 x2.2 3 q, setU L1 x2.2 4 q)) : DNi g c mu n L2 x2.1 i (j + 1) := by
  cases w with
  | true =>
    rw [mop_t] at hx1
    rw [hx1] at hx2
    rw [mop_t] at hx2
    rw [hx2]
    exact ⟨fun _ => h.1 rfl, fun q => by cases q⟩
  | false =>
    have hk : (L1 3 (5 * i + j), L1 4 (5 * i + j)) = hv (g (ix i j)) i j := (h.2 rfl i j (by omega) hj).2 (fun q => by unfold prc at q; omega)
    have e : x2 = mop false (tlO g c mu i j) := by rw [hx2, hx1, hk]; exact mop_b
    cases hc : tlO g c mu i j with
    | none => rw [hc, mop_n] at e; rw [e]; exact ⟨fun _ => ⟨i, j, by omega, hj, hc⟩, fun q => by cases q⟩
    | some z =>
      rw [hc, mop_s] at e
      refine ⟨(fun q => by rw [e] at q; cases q), fun _ => TLm_s (h.2 rfl) hn hij hj hc (fun q => ?_)⟩
      rw [hq q, e, setU_5, setU_6, setU_q _ _ (by decide), setU_q _ _ (by decide)]
theorem TLm_fin {g c : Nat → Int32} {p q n : Nat} {L1 : LL} (h : TLm g c (lN p, lN q) n L1 (n + 1) (n + 1)) : mtO n g c p q = some (fun i j => (tlO g c (lN p, lN q) i j).getD (0, 1)) ∧ MQm n L1 (fun i j => (tlO g c (lN p, lN q) i j).getD (0, 1)) ∧ ∀ i j, i ≤ n → j ≤ n → WF ((fun i j => (tlO g c (lN p, lN q) i j).getD (0, 1)) i j) := by
  have e : ∀ i j, i ≤ n → j ≤ n → tlO g c (lN p, lN q) i j = some (L1 3 (5 * i + j), L1 4 (5 * i + j)) := fun i j hi hj => (h i j hi hj).1 (by unfold prc; omega)
  refine ⟨mtO_t (fun i j hi hj => by rw [e i j hi hj]; exact fun z => by cases z), fun i j hi hj => ?_, fun i j hi hj => ?_⟩
  · show _ = (tlO g c (lN p, lN q) i j).getD (0, 1); rw [e i j hi hj]; rfl
  · show WF ((tlO g c (lN p, lN q) i j).getD (0, 1)); rw [e i j hi hj]; exact tlO_WF (e i j hi hj)
def DBQ (n : Nat) (gv cv : Nat → Int32) (p q : Nat) (I : II) (L : LL) (r : Int32) (I1 : II) (L1 : LL) : Prop := FD I I1 L L1 ∧ (∃ w, I1 0 7 = b2i w) ∧ ((r = b2i true ∧ ∃ E M, doneO n gv cv p q = some (E, M) ∧ I1 0 14 = nI (eS E) ∧ RelX n I1 L1 E ∧ ∀ i j, i ≤ n → j ≤ n → (L1 5 (5 * i + j), L1 6 (5 * i + j)) = M i j) ∨ (r = b2i false ∧ doneO n gv cv p q = none))
set_option maxHeartbeats 4000000 in
set_option maxRecDepth 20000 in
theorem c_X7_isDoneBy (l : Launch) (G : GT) (rg : RgT) (I : II) (L : LL) (n gi ci p1 q1 : Nat) (gv cv : Nat → Int32) (hms : isMS rg) (hn : I 0 0 = nI n) (hn4 : n < 5) (h8 : I 0 8 = b2i false) (hgi : I 0 36 = nI gi) (hci : I 0 37 = nI ci) (hg12 : gi < 12) (hc12 : ci < 12) (hgv : ∀ k, k < 25 → I 1 (25 * gi + k) = gv k) (hcv : ∀ k, k < 25 → I 1 (25 * ci + k) = cv k) (hp : p1 < 2 ^ 20) (hq : q1 < 2 ^ 20) (hq0 : 0 < q1) (hpq : Nat.gcd p1 q1 = 1) : CtI l yX7_isDoneBy cX7_isDoneBy 6 (some FieldType.boolean) 6 G rg I L [.ref (gB G + 0), .int (nI p1), .int (nI q1)] (DBQ n gv cv p1 q1 I L) := by
  refine ctI_of [some (.ref (gB G + 0)), some (.int (nI p1)), some (.int (nI q1)), none, none, none] rfl (Nat.le_of_ble_eq_true rfl) (by decide) ?_
  intro p e s m args below meth c C hr
  obtain ⟨o0, a1, a2, a3, a4, a5, a6, a7, a8, a9, a10, a11, a12, a13, a14, a15, a16, a17, a18, a19, a20, a21, a22, a23, a24, a25, a26⟩ := id hms
  have hWmu := WF_lN (show p1 < 2 ^ 31 by omega) (show q1 < 2 ^ 31 by omega) hq0 hpq
  refine j_aload_n C dX7_isDoneBy_0 rfl rfl ?_
  refine j_aload_n C dX7_isDoneBy_1 rfl rfl ?_
  refine g_getI C (o0) fl_X7_239 (by rfl) dX7_isDoneBy_2 ?_
  refine t_i hci ?_
  refine g_cvV C vc_X7_215 (c_X7_matrix l G rg _ _ n ci cv hms hn hn4 hc12 hcv) ⟨Nat.le_of_ble_eq_true rfl, Nat.le_of_ble_eq_true rfl⟩ (o0) rfl rfl (Nat.le_of_ble_eq_true rfl) ⟨Nat.zero_le _, Nat.zero_le _⟩ dX7_isDoneBy_5 (fun I_5 L_5 p_5 => ?_)
  obtain ⟨c1, c2, c3, c4⟩ := p_5
  refine j_iconst (v := nI 0) C dX7_isDoneBy_8 (by decide) ?_
  refine j_istore_n C dX7_isDoneBy_9 rfl (by decide) ?_
  have lo : ∀ (fuel : Nat) (i : Nat) (L1 : LL), 25 < fuel + i → i ≤ 25 → RSL 23 24 3 4 0 L_5 L1 i → J p l e (rmD 6) s m args below meth c (MQ below (QI G rg (DBQ n gv cv p1 q1 I L)) args s 0 0 (rg_A G rg)) 6 G rg 0 0 I_5 L1 10 [some (.ref (gB G + 0)), some (.int (nI p1)), some (.int (nI q1)), some (.int (nI i)), none, none] [] := by
    intro fuel
    induction fuel with
    | zero => intro i L1 h1 h2 hL; exfalso; omega
    | succ fuel ih_lo =>
      intro i L1 h1 h2 hL
      refine j_iload_n C dX7_isDoneBy_10 rfl rfl ?_
      refine j_bipush (v := nI 25) C dX7_isDoneBy_11 (by decide) ?_
      first | refine n_icmp_ge (tgt := 46) C (by omega) (by omega) dX7_isDoneBy_13 (by decide) (fun h_13 => ?_) (fun h_13 => ?_) | refine j_icmp_ge (tgt := 46) C dX7_isDoneBy_13 (by decide) (fun h_13 => ?_) (fun h_13 => ?_)
      · refine j_aload_n C dX7_isDoneBy_46 rfl rfl ?_
        refine j_aload_n C dX7_isDoneBy_47 rfl rfl ?_
        refine g_getI C (o0) fl_X7_236 (by rfl) dX7_isDoneBy_48 ?_
        refine t_i (y := nI gi) (by rw [c1 0 (by decide)]; exact hgi) ?_
        refine g_cvV C vc_X7_215 (c_X7_matrix l G rg _ _ n gi gv hms (by rw [c1 0 (by decide)]; exact hn) hn4 hg12 (fun k hk => by rw [c1 1 (by decide)]; exact hgv k hk)) ⟨Nat.le_of_ble_eq_true rfl, Nat.le_of_ble_eq_true rfl⟩ (o0) rfl rfl (Nat.le_of_ble_eq_true rfl) ⟨Nat.zero_le _, Nat.zero_le _⟩ dX7_isDoneBy_51 (fun I_51 L_51 p_51 => ?_)
        obtain ⟨d1, d2, d3, d4⟩ := p_51
        have i0 : I_51 0 = I 0 := by rw [d1 0 (by decide), c1 0 (by decide)]
        have e5 : i = 25 := by omega
        subst e5
        have ho : ∀ a b, a ≤ n → b ≤ n → (L_51 23 (5 * a + b), L_51 24 (5 * a + b)) = hv (cv (ix a b)) a b := fun a b ha hb => by rw [d2 23 (by decide) (by decide), d2 24 (by decide) (by decide), (hL.2 (5 * a + b) (by omega)).1, (hL.2 (5 * a + b) (by omega)).2, Nat.zero_add]; exact c4 a b ha hb
        have hfd : FD I I_51 L L_51 := ⟨fun q a b c d => by rw [d1 q b, c1 q b], fun k _ _ _ _ _ => by rw [i0], fun q a b c d e => by rw [d2 q (by omega) (by omega), hL.1 q d e, c2 q (by omega) (by omega)]⟩
        refine j_aload_n C dX7_isDoneBy_54 rfl rfl ?_
        refine g_cvV C vc_X7_195 (c_X7_begin l G rg _ _ hms) ⟨Nat.le_of_ble_eq_true rfl, Nat.le_of_ble_eq_true rfl⟩ (o0) rfl rfl (Nat.le_of_ble_eq_true rfl) ⟨Nat.zero_le _, Nat.zero_le _⟩ dX7_isDoneBy_55 (fun I_55 L_55 p_55 => ?_)
        obtain ⟨rfl, rfl⟩ := p_55
        refine t_IL (I1 := setW I_51 false) (up2_same _ (by rw [setW_k _ _ (by decide), i0]; exact h8)) rfl ?_
        refine j_iconst (v := nI 0) C dX7_isDoneBy_58 (by decide) ?_
        refine j_istore_n C dX7_isDoneBy_59 rfl (by decide) ?_
        have li : ∀ (fuel : Nat) (a : Nat) (w : Bool) (L1 : LL), n + 1 < fuel + a → a ≤ n + 1 → (∀ q, q ≠ 0 → q ≠ 3 → q ≠ 4 → L1 q = L_51 q) → DNi gv cv (lN p1, lN q1) n L1 w a a → J p l e (rmD 6) s m args below meth c (MQ below (QI G rg (DBQ n gv cv p1 q1 I L)) args s 0 0 (rg_A G rg)) 6 G rg 0 0 (setW I_51 w) L1 60 [some (.ref (gB G + 0)), some (.int (nI p1)), some (.int (nI q1)), some (.int (nI a)), none, none] [] := by
          intro fuel
          induction fuel with
          | zero => intro a w L1 h1 h2 hLf hD; exfalso; omega
          | succ fuel ih_li =>
            intro a w L1 h1 h2 hLf hD
            refine j_iload_n C dX7_isDoneBy_60 rfl rfl ?_
            refine j_aload_n C dX7_isDoneBy_61 rfl rfl ?_
            refine g_getI C (o0) fl_X7_7 (by rfl) dX7_isDoneBy_62 ?_
            refine t_i (y := nI n) ((setW_k _ _ (by decide)).trans (by rw [i0]; exact hn)) ?_
            first | refine n_icmp_gt (tgt := 155) C (by omega) (by omega) dX7_isDoneBy_65 (by decide) (fun h_65 => ?_) (fun h_65 => ?_) | refine j_icmp_gt (tgt := 155) C dX7_isDoneBy_65 (by decide) (fun h_65 => ?_) (fun h_65 => ?_)
            · refine j_aload_n C dX7_isDoneBy_155 rfl rfl ?_
              refine g_cvI C vc_X7_154 (c_X7_isWrong l G rg _ _ w hms (setW_7 _ _) ((setW_k _ _ (by decide)).trans (by rw [i0]; exact h8))) ⟨Nat.le_of_ble_eq_true rfl, Nat.le_of_ble_eq_true rfl⟩ (o0) rfl rfl (Nat.le_of_ble_eq_true rfl) ⟨Nat.zero_le _, Nat.zero_le _⟩ dX7_isDoneBy_156 (fun r_156 I_156 L_156 p_156 => ?_)
              obtain ⟨rfl, rfl, rfl⟩ := p_156
              first | refine n_if_eq (tgt := 164) C dX7_isDoneBy_159 (by decide) (fun h_159 => ?_) (fun h_159 => ?_) | refine j_if_eq (tgt := 164) C dX7_isDoneBy_159 (by decide) (fun h_159 => ?_) (fun h_159 => ?_)
              · have hT := hD.2 h_159
                rw [show a = n + 1 by omega] at hT
                obtain ⟨t1, t2, t3⟩ := TLm_fin hT
                refine j_aload_n C dX7_isDoneBy_164 rfl rfl ?_
                refine g_cvV C vc_X7_254 (c_X7_keepMatrix l G rg _ _ hms) ⟨Nat.le_of_ble_eq_true rfl, Nat.le_of_ble_eq_true rfl⟩ (o0) rfl rfl (Nat.le_of_ble_eq_true rfl) ⟨Nat.zero_le _, Nat.zero_le _⟩ dX7_isDoneBy_165 (fun I_165 L_165 p_165 => ?_)
                obtain ⟨rfl, k1, k2⟩ := p_165
                refine j_aload_n C dX7_isDoneBy_168 rfl rfl ?_
                refine g_cvI C vc_X7_257 (c_X7_eliminate l G rg _ _ n _ hms ((setW_k _ _ (by decide)).trans (by rw [i0]; exact hn)) hn4 ((setW_k _ _ (by decide)).trans (by rw [i0]; exact h8)) (fun j hj => by rw [setW_q _ _ (by decide)]; exact d3 j hj) (MQm.cong t2 (k1 3 (by decide) (by decide)) (k1 4 (by decide) (by decide))) t3) ⟨Nat.le_of_ble_eq_true rfl, Nat.le_of_ble_eq_true rfl⟩ (o0) rfl rfl (Nat.le_of_ble_eq_true rfl) ⟨Nat.zero_le _, Nat.zero_le _⟩ dX7_isDoneBy_169 (fun r_169 I_169 L_169 p_169 => ?_)
                obtain ⟨hFM, cc, kk, jo, E, w2, hel, rfl, h7, hwt, hwf, h0⟩ := p_169
                obtain ⟨hEW, hEI, hk0, hc2⟩ := elim_EW (EW_0 t3) (EI_0 n _) hel
                have hff : FD I I_169 L L_169 := FD.tr ⟨fun q z0 z7 z8 z9 => by rw [setW_q _ _ z0]; exact hfd.1 q z0 z7 z8 z9, fun k z1 z2 z3 z4 z5 => by rw [setW_k _ _ z1]; exact hfd.2.1 k z1 z2 z3 z4 z5, fun q z0 z1 z2 z3 z4 => by rw [k1 q (by omega) (by omega), hLf q z0 (by omega) (by omega)]; exact hfd.2.2 q z0 z1 z2 z3 z4⟩ hFM.fd
                refine j_iconst (v := nI 1) C dX7_isDoneBy_172 (by decide) ?_
                first | refine n_icmp_ne (tgt := 180) C (by omega) (by omega) dX7_isDoneBy_173 (by decide) (fun h_173 => ?_) (fun h_173 => ?_) | refine j_icmp_ne (tgt := 180) C dX7_isDoneBy_173 (by decide) (fun h_173 => ?_) (fun h_173 => ?_)
                · refine j_iconst (v := nI 0) C dX7_isDoneBy_180 (by decide) ?_
                  exact j_zret C hr rfl dX7_isDoneBy_181 ⟨hff, ⟨_, h7⟩, Or.inr ⟨rfl, doneO_2 t1 hel h_173⟩⟩
                · refine j_iconst (v := nI 1) C dX7_isDoneBy_176 (by decide) ?_
                  refine j_goto (tgt := 181) C dX7_isDoneBy_177 (by decide) ?_
                  subst h_173
                  have hwF : w2 = false := by cases w2 with | false => rfl | true => exact absurd (hwt rfl) (by decide)
                  obtain ⟨_, h14, hRX, hMQ⟩ := hwf hwF
                  exact j_zret C hr rfl dX7_isDoneBy_181 ⟨hff, ⟨_, h7⟩, Or.inl ⟨rfl, E, _, doneO_3 t1 hel, h14, hRX, fun i j hi hj => by rw [hFM.2.2 5 (by decide) (by decide) (by decide) (by decide), hFM.2.2 6 (by decide) (by decide) (by decide) (by decide), k2 _ (by omega)]; exact t2 i j hi hj⟩⟩
              · refine j_iconst (v := nI 0) C dX7_isDoneBy_162 (by decide) ?_
                obtain ⟨a1, b1, ha1, hb1, hn1⟩ := hD.1 h_159
                exact j_zret C hr rfl dX7_isDoneBy_163 ⟨⟨fun q z0 z7 z8 z9 => by rw [setW_q _ _ z0]; exact hfd.1 q z0 z7 z8 z9, fun k z1 z2 z3 z4 z5 => by rw [setW_k _ _ z1]; exact hfd.2.1 k z1 z2 z3 z4 z5, fun q z0 z1 z2 z3 z4 => by rw [hLf q z0 (by omega) (by omega)]; exact hfd.2.2 q z0 z1 z2 z3 z4⟩, ⟨_, setW_7 _ _⟩, Or.inr ⟨rfl, doneO_1 ha1 hb1 hn1⟩⟩
            · refine j_iload_n C dX7_isDoneBy_68 rfl rfl ?_
              refine j_istore C dX7_isDoneBy_69 (by decide) ?_
              have lj : ∀ (fuel : Nat) (b : Nat) (w : Bool) (L1 : LL), n + 1 < fuel + b → a ≤ b → b ≤ n + 1 → (∀ q, q ≠ 0 → q ≠ 3 → q ≠ 4 → L1 q = L_51 q) → DNi gv cv (lN p1, lN q1) n L1 w a b → J p l e (rmD 6) s m args below meth c (MQ below (QI G rg (DBQ n gv cv p1 q1 I L)) args s 0 0 (rg_A G rg)) 6 G rg 0 0 (setW I_51 w) L1 71 [some (.ref (gB G + 0)), some (.int (nI p1)), some (.int (nI q1)), some (.int (nI a)), some (.int (nI b)), none] [] := by
                intro fuel
                induction fuel with
                | zero => intro b w L1 u1 u2 u3 hLf hD; exfalso; omega
                | succ fuel ih_lj =>
                  intro b w L1 u1 u2 u3 hLf hD
                  refine j_iload C dX7_isDoneBy_71 rfl ?_
                  refine j_aload_n C dX7_isDoneBy_73 rfl rfl ?_
                  refine g_getI C (o0) fl_X7_7 (by rfl) dX7_isDoneBy_74 ?_
                  refine t_i (y := nI n) ((setW_k _ _ (by decide)).trans (by rw [i0]; exact hn)) ?_
                  first | refine n_icmp_gt (tgt := 149) C (by omega) (by omega) dX7_isDoneBy_77 (by decide) (fun h_77 => ?_) (fun h_77 => ?_) | refine j_icmp_gt (tgt := 149) C dX7_isDoneBy_77 (by decide) (fun h_77 => ?_) (fun h_77 => ?_)
                  · first | refine n_iinc (n := 1) C dX7_isDoneBy_149 rfl (by decide) ?_ | refine j_iinc C dX7_isDoneBy_149 rfl rfl (by decide) ?_
                    refine j_goto (tgt := 60) C dX7_isDoneBy_152 (by decide) ?_
                    refine j_rm 4 ?_
                    exact ih_li (a + 1) w L1 (by omega) (by omega) hLf (DN_n hD (by omega))
                  · refine j_iconst (v := nI 5) C dX7_isDoneBy_80 (by decide) ?_
                    refine j_iload_n C dX7_isDoneBy_81 rfl rfl ?_
                    first | refine n_imul C dX7_isDoneBy_82 ?_ | refine j_imul C dX7_isDoneBy_82 ?_
                    refine j_iload C dX7_isDoneBy_83 rfl ?_
                    first | refine n_iadd C dX7_isDoneBy_85 ?_ | refine j_iadd C dX7_isDoneBy_85 ?_
                    refine j_istore C dX7_isDoneBy_86 (by decide) ?_
                    refine j_aload_n C dX7_isDoneBy_88 rfl rfl ?_
                    refine j_iload_n C dX7_isDoneBy_89 rfl rfl ?_
                    refine j_i2l C dX7_isDoneBy_90 ?_
                    refine t_l (nI_l (by omega)) ?_
                    refine j_iload_n C dX7_isDoneBy_91 rfl rfl ?_
                    refine j_i2l C dX7_isDoneBy_92 ?_
                    refine t_l (nI_l (by omega)) ?_
                    refine j_aload_n C dX7_isDoneBy_93 rfl rfl ?_
                    refine g_getR C (o0) fl_X7_82 (by rfl) dX7_isDoneBy_94 ?_
                    refine j_iload C dX7_isDoneBy_97 rfl ?_
                    refine g_lald C (a23) (by omega) (by decide) dX7_isDoneBy_99 ?_
                    refine t_l (y := (hv (cv (ix a b)) a b).1) (by rw [hLf 23 (by decide) (by decide) (by decide)]; exact congrArg Prod.fst (ho a b (by omega) (by omega))) ?_
                    refine j_aload_n C dX7_isDoneBy_100 rfl rfl ?_
                    refine g_getR C (o0) fl_X7_85 (by rfl) dX7_isDoneBy_101 ?_
                    refine j_iload C dX7_isDoneBy_104 rfl ?_
                    refine g_lald C (a24) (by omega) (by decide) dX7_isDoneBy_106 ?_
                    refine t_l (y := (hv (cv (ix a b)) a b).2) (by rw [hLf 24 (by decide) (by decide) (by decide)]; exact congrArg Prod.snd (ho a b (by omega) (by omega))) ?_
                    refine g_cvV C vc_X7_179 (c_X7_product l G rg _ _ w _ _ _ _ hms (setW_7 _ _) ((setW_k _ _ (by decide)).trans (by rw [i0]; exact h8)) (fun _ => hWmu) (fun _ => hv_WF _ _ _)) ⟨Nat.le_of_ble_eq_true rfl, Nat.le_of_ble_eq_true rfl⟩ (o0) rfl rfl (Nat.le_of_ble_eq_true rfl) ⟨Nat.zero_le _, Nat.zero_le _⟩ dX7_isDoneBy_107 (fun I_107 L_107 p_107 => ?_)
                    obtain ⟨e1, e2⟩ := p_107
                    rw [setW_2] at e1
                    subst e1
                    subst e2
                    obtain ⟨x1, hx1⟩ : ∃ x, x = mop w (fMul (lN p1, lN q1) (hv (cv (ix a b)) a b)) := ⟨_, rfl⟩
                    refine t_IL (I1 := setW I_51 x1.1) (L1 := setU L1 x1.2) (by rw [hx1]; rfl) (by rw [hx1]; rfl) ?_
                    have hxk : x1.1 = false → w = false ∧ WF x1.2 := mop_k1 hx1 (fun _ z => fMul_WF z)
                    refine j_aload_n C dX7_isDoneBy_110 rfl rfl ?_
                    refine j_aload_n C dX7_isDoneBy_111 rfl rfl ?_
                    refine g_getR C (o0) fl_X7_20 (by rfl) dX7_isDoneBy_112 ?_
                    refine j_iload C dX7_isDoneBy_115 rfl ?_
                    refine g_lald C (a3) (by omega) (by decide) dX7_isDoneBy_117 ?_
                    refine t_l (y := L1 3 (5 * a + b)) (congrFun (setU_q _ _ (by decide)) _) ?_
                    refine j_aload_n C dX7_isDoneBy_118 rfl rfl ?_
                    refine g_getR C (o0) fl_X7_24 (by rfl) dX7_isDoneBy_119 ?_
                    refine j_iload C dX7_isDoneBy_122 rfl ?_
                    refine g_lald C (a4) (by omega) (by decide) dX7_isDoneBy_124 ?_
                    refine t_l (y := L1 4 (5 * a + b)) (congrFun (setU_q _ _ (by decide)) _) ?_
                    refine j_aload_n C dX7_isDoneBy_125 rfl rfl ?_
                    refine g_getL C (o0) fl_X7_147 (by rfl) dX7_isDoneBy_126 ?_
                    refine t_l (setU_5 _ _) ?_
                    refine j_aload_n C dX7_isDoneBy_129 rfl rfl ?_
                    refine g_getL C (o0) fl_X7_151 (by rfl) dX7_isDoneBy_130 ?_
                    refine t_l (setU_6 _ _) ?_
                    refine g_cvV C vc_X7_182 (c_X7_difference l G rg _ _ x1.1 _ _ _ _ hms (setW_7 _ _) ((setW_k _ _ (by decide)).trans (by rw [i0]; exact h8)) (fun z => by rw [(hD.2 (hxk z).1 a b (by omega) (by omega)).2 (fun y => by unfold prc at y; omega)]; exact hv_WF _ _ _) (fun z => (hxk z).2)) ⟨Nat.le_of_ble_eq_true rfl, Nat.le_of_ble_eq_true rfl⟩ (o0) rfl rfl (Nat.le_of_ble_eq_true rfl) ⟨Nat.zero_le _, Nat.zero_le _⟩ dX7_isDoneBy_133 (fun I_133 L_133 p_133 => ?_)
                    obtain ⟨e1, e2⟩ := p_133
                    rw [setW_2] at e1
                    rw [setU_2] at e2
                    obtain ⟨x2, hx2⟩ : ∃ x, x = mop x1.1 (fSub (L1 3 (5 * a + b), L1 4 (5 * a + b)) x1.2) := ⟨_, rfl⟩
                    change setW I_51 (mop x1.1 (fSub (L1 3 (5 * a + b), L1 4 (5 * a + b)) x1.2)).1 = I_133 at e1
                    change setU L1 (mop x1.1 (fSub (L1 3 (5 * a + b), L1 4 (5 * a + b)) x1.2)).2 = L_133 at e2
                    rw [← hx2] at e1 e2
                    subst e1
                    subst e2
                    refine j_aload_n C dX7_isDoneBy_136 rfl rfl ?_
                    refine j_iload_n C dX7_isDoneBy_137 rfl rfl ?_
                    refine j_iload C dX7_isDoneBy_138 rfl ?_
                    refine g_cvV C vc_X7_185 (c_X7_into l G rg _ _ _ _ hms (by omega) (by omega)) ⟨Nat.le_of_ble_eq_true rfl, Nat.le_of_ble_eq_true rfl⟩ (o0) rfl rfl (Nat.le_of_ble_eq_true rfl) ⟨Nat.zero_le _, Nat.zero_le _⟩ dX7_isDoneBy_140 (fun I_140 L_140 p_140 => ?_)
                    obtain ⟨rfl, e3, e4⟩ := p_140
                    first | refine n_iinc (n := 1) C dX7_isDoneBy_143 rfl (by decide) ?_ | refine j_iinc C dX7_isDoneBy_143 rfl rfl (by decide) ?_
                    refine j_goto (tgt := 71) C dX7_isDoneBy_146 (by decide) ?_
                    refine j_rm 5 ?_
                    exact ih_lj (b + 1) x2.1 _ (by omega) (by omega) (by omega) (fun q z0 z3 z4 => by rw [e3 q z3 z4, setU_q _ _ z0]; exact hLf q z0 z3 z4) (DN_s hD hn4 (by omega) (by omega) hx1 hx2 e4)
              exact lj (n + 2) a w L1 (by omega) (by omega) (by omega) hLf hD
        exact li (n + 2) 0 false L_51 (by omega) (by omega) (fun _ _ _ _ => rfl) (DN_0 d4)
      · refine j_aload_n C dX7_isDoneBy_16 rfl rfl ?_
        refine g_getR C (o0) fl_X7_82 (by rfl) dX7_isDoneBy_17 ?_
        refine j_iload_n C dX7_isDoneBy_20 rfl rfl ?_
        refine j_aload_n C dX7_isDoneBy_21 rfl rfl ?_
        refine g_getR C (o0) fl_X7_20 (by rfl) dX7_isDoneBy_22 ?_
        refine j_iload_n C dX7_isDoneBy_25 rfl rfl ?_
        refine g_lald C (a3) (by omega) (by decide) dX7_isDoneBy_26 ?_
        refine t_l (y := L_5 3 i) (by rw [hL.1 3 (by decide) (by decide)]) ?_
        refine g_last C (a23) (by omega) (by decide) dX7_isDoneBy_27 ?_
        refine j_aload_n C dX7_isDoneBy_28 rfl rfl ?_
        refine g_getR C (o0) fl_X7_85 (by rfl) dX7_isDoneBy_29 ?_
        refine j_iload_n C dX7_isDoneBy_32 rfl rfl ?_
        refine j_aload_n C dX7_isDoneBy_33 rfl rfl ?_
        refine g_getR C (o0) fl_X7_24 (by rfl) dX7_isDoneBy_34 ?_
        refine j_iload_n C dX7_isDoneBy_37 rfl rfl ?_
        refine g_lald C (a4) (by omega) (by decide) dX7_isDoneBy_38 ?_
        refine t_l (y := L_5 4 (0 + i)) (by rw [up2_ne _ (by decide), hL.1 4 (by decide) (by decide), Nat.zero_add]) ?_
        refine g_last C (a24) (by omega) (by decide) dX7_isDoneBy_39 ?_
        first | refine n_iinc (n := 1) C dX7_isDoneBy_40 rfl (by decide) ?_ | refine j_iinc C dX7_isDoneBy_40 rfl rfl (by decide) ?_
        refine j_goto (tgt := 10) C dX7_isDoneBy_43 (by decide) ?_
        exact ih_lo (i + 1) _ (by omega) (by omega) (RSL_s hL (by decide))
  exact lo 26 0 L_5 (by omega) (by omega) RSL_0
