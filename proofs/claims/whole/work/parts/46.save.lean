/-! ===== the model: save, restore ===== -/
theorem j_zastn {p : Program} {l : Launch} {e : Env} {R : Room} {s : State} {m : MethodId} {args : Array Value} {below : List Frame} {meth : Method} {c : Code} {Q : State → Prop} {cc : ByteArray} {nL : Nat} {own : String} {G : GT} {rg : RgT} {kc ks : Nat} {I : II} {L : LL} {pc : Nat} {lv : LV} {st : List Value} (C : Cx p s m args meth c cc nL own G) {o : Nat} {h : ShT} {i : Int32} {x : Int32} (ho : o < rg.1) (hs : rg.2 o = h) (hc : h.1 = 2) (hin : vp_in i h.2.1) (d : decode cc pc = .ok (.bastore, 1)) (k : J p l e R s m args below meth c Q nL G rg kc ks (up2 I o i.toNatClampNeg (vp_nar .boolean x)) L (pc + 1) lv st) : J p l e R s m args below meth c Q nL G rg kc ks I L pc lv (.int x :: .int i :: .ref (gB G + o) :: st) := by
  intro H locs ls hP hS hl
  have he := rg_at (G := G) (I := I) (L := L) ho
  rw [hs] at he
  have hcell : rg_cell G I L o h = .inl (G.2.1 2, h.2.1, .inl (I o)) := by simp [rg_cell, hc]
  rw [hcell] at he
  have hw : (rg_W G rg I L).set o (gB G + o, .inl (G.2.1 2, h.2.1, .inl (upd (I o) i.toNatClampNeg (vp_nar .boolean x)))) = rg_W G rg (up2 I o i.toNatClampNeg (vp_nar .boolean x)) (L) := by
    refine rg_set ho (fun w hw => ?_) (fun w hw => ?_) ?_
    · first | rfl | exact up2_ne _ hw
    · first | rfl | exact up2_ne _ hw
    · rw [hs]
      simp only [rg_cell, hc, up2, va_up_self]
      simp
      try rfl
  exact va_zast C.1 C.2.1 C.2.2.2.2.2.1 hP rg_D hS o 2 he rfl hin d (fun H1 locs1 hP1 hD1 hS1 => k H1 locs1 ls (by rw [hw] at hP1; exact hP1) hS1 hl)
theorem g_zastn {p : Program} {l : Launch} {e : Env} {R : Room} {s : State} {m : MethodId} {args : Array Value} {below : List Frame} {meth : Method} {c : Code} {Q : State → Prop} {cc : ByteArray} {nL : Nat} {own : String} {G : GT} {rg : RgT} {kc ks : Nat} {I : II} {L : LL} {pc : Nat} {lv : LV} {st : List Value} (C : Cx p s m args meth c cc nL own G) {o i n : Nat} {x : Int32} (ar : Ar rg o 2 n) (hi : i < n) (hn : n < 2 ^ 31) (d : decode cc pc = .ok (.bastore, 1)) (k : J p l e R s m args below meth c Q nL G rg kc ks (up2 I o i (vp_nar .boolean x)) L (pc + 1) lv st) : J p l e R s m args below meth c Q nL G rg kc ks I L pc lv (.int x :: .int (nI i) :: .ref (gB G + o) :: st) := by
  obtain ⟨ho, tg, fs, hs⟩ := ar
  refine j_zastn C ho hs rfl (vp_in_nI hi hn) d ?_
  rw [nI_clamp (Nat.lt_trans hi hn)]
  exact k
/-- the first five places of rows a, b, c, and of the row d twice, taken from others -/
def CP5 (a a' b b' c c' : Nat) (I I1 : II) (i : Nat) : Prop := (∀ q, q ≠ a → q ≠ b → q ≠ c → I1 q = I q) ∧ ∀ s, s < i → I1 a s = I a' s ∧ I1 b s = I b' s ∧ I1 c s = vp_nar .boolean (I c' s)
theorem CP5_0 {a a' b b' c c' : Nat} {I : II} : CP5 a a' b b' c c' I I 0 := ⟨fun _ _ _ _ => rfl, fun s hs => absurd hs (Nat.not_lt_zero s)⟩
theorem CP5_s {a a' b b' c c' : Nat} {I I1 : II} {i : Nat} (h : CP5 a a' b b' c c' I I1 i) (h1 : a ≠ b) (h2 : a ≠ c) (h3 : b ≠ c) : CP5 a a' b b' c c' I (up2 (up2 (up2 I1 a i (I a' i)) b i (I b' i)) c i (vp_nar .boolean (I c' i))) (i + 1) := by
  refine ⟨fun q qa qb qc => by rw [up2_ne _ qc, up2_ne _ qb, up2_ne _ qa]; exact h.1 q qa qb qc, fun s hs => ?_⟩
  rw [up2_ne _ h2, up2_ne _ h1, up2_at, if_pos rfl, up2_ne _ h3, up2_at, if_pos rfl, up2_ne _ (Ne.symm h1), up2_at, if_pos rfl, up2_ne _ (Ne.symm h3), up2_ne _ (Ne.symm h2)]
  by_cases e : s = i
  · rw [if_pos e, if_pos e, if_pos e, e]; exact ⟨rfl, rfl, rfl⟩
  · rw [if_neg e, if_neg e, if_neg e]; exact h.2 s (by omega)
def SVL (L L1 : LL) (i : Nat) : Prop := (∀ q, q ≠ 16 → L1 q = L q) ∧ ∀ s, s < i → L1 16 s = L 9 s ∧ L1 16 (5 + s) = L 10 s
theorem SVL_s {L L1 : LL} {i : Nat} (h : SVL L L1 i) (hi : i < 5) : SVL L (up2 (up2 L1 16 i (L 9 i)) 16 (5 + i) (L 10 i)) (i + 1) := by
  refine ⟨fun q hq => by rw [up2_ne _ hq, up2_ne _ hq]; exact h.1 q hq, fun s hs => ?_⟩
  rw [up2_at, if_pos rfl, if_neg (by omega), up2_at, if_pos rfl, up2_at, if_pos rfl]
  by_cases e : s = i
  · rw [if_pos e, if_pos (by omega), e]; exact ⟨rfl, rfl⟩
  · rw [if_neg e, if_neg (by omega), up2_at, if_pos rfl, if_neg (by omega)]; exact h.2 s (by omega)
def SVM (L L1 : LL) (i : Nat) : Prop := (∀ q, q ≠ 17 → L1 q = L q) ∧ ∀ s, s < i → L1 17 s = L 11 s ∧ L1 17 (25 + s) = L 12 s
theorem SVM_s {L L1 : LL} {i : Nat} (h : SVM L L1 i) (hi : i < 25) : SVM L (up2 (up2 L1 17 i (L 11 i)) 17 (25 + i) (L 12 i)) (i + 1) := by
  refine ⟨fun q hq => by rw [up2_ne _ hq, up2_ne _ hq]; exact h.1 q hq, fun s hs => ?_⟩
  rw [up2_at, if_pos rfl, if_neg (by omega), up2_at, if_pos rfl, up2_at, if_pos rfl]
  by_cases e : s = i
  · rw [if_pos e, if_pos (by omega), e]; exact ⟨rfl, rfl⟩
  · rw [if_neg e, if_neg (by omega), up2_at, if_pos rfl, if_neg (by omega)]; exact h.2 s (by omega)
/-- two rows of longs taken from one -/
def RSL (a b c d m : Nat) (L L1 : LL) (i : Nat) : Prop := (∀ q, q ≠ a → q ≠ b → L1 q = L q) ∧ ∀ s, s < i → L1 a s = L c s ∧ L1 b s = L d (m + s)
theorem RSL_0 {a b c d m : Nat} {L : LL} : RSL a b c d m L L 0 := ⟨fun _ _ _ => rfl, fun s hs => absurd hs (Nat.not_lt_zero s)⟩
theorem RSL_s {a b c d m : Nat} {L L1 : LL} {i : Nat} (h : RSL a b c d m L L1 i) (h1 : a ≠ b) : RSL a b c d m L (up2 (up2 L1 a i (L c i)) b i (L d (m + i))) (i + 1) := by
  refine ⟨fun q qa qb => by rw [up2_ne _ qb, up2_ne _ qa]; exact h.1 q qa qb, fun s hs => ?_⟩
  rw [up2_ne _ h1, up2_at, if_pos rfl, up2_at, if_pos rfl, up2_ne _ (Ne.symm h1)]
  by_cases e : s = i
  · rw [if_pos e, if_pos e, e]; exact ⟨rfl, rfl⟩
  · rw [if_neg e, if_neg e]; exact h.2 s (by omega)
set_option maxHeartbeats 4000000 in
set_option maxRecDepth 20000 in
theorem c_X7_save (l : Launch) (G : GT) (rg : RgT) (I : II) (L : LL) (hms : isMS rg) : CtV l yX7_save cX7_save 2 none 1 G rg I L [.ref (gB G + 0)] (fun I1 L1 => (∀ q, q ≠ 0 → q ≠ 14 → q ≠ 15 → q ≠ 18 → I1 q = I q) ∧ (∀ k, k ≠ 24 → I1 0 k = I 0 k) ∧ (∀ q, q ≠ 16 → q ≠ 17 → L1 q = L q) ∧ I1 0 24 = I 0 14 ∧ (∀ s, s < 5 → I1 14 s = I 8 s ∧ I1 15 s = I 13 s ∧ I1 18 s = vp_nar .boolean (I 7 s)) ∧ (∀ s, s < 5 → L1 16 s = L 9 s ∧ L1 16 (5 + s) = L 10 s) ∧ ∀ s, s < 25 → L1 17 s = L 11 s ∧ L1 17 (25 + s) = L 12 s) := by
  refine ctV_of [some (.ref (gB G + 0)), none] rfl (Nat.le_of_ble_eq_true rfl) (by decide) ?_
  intro p e s m args below meth c C hr
  obtain ⟨o0, a1, a2, a3, a4, a5, a6, a7, a8, a9, a10, a11, a12, a13, a14, a15, a16, a17, a18, a19, a20, a21, a22, a23, a24, a25, a26⟩ := id hms
  refine j_aload_n C dX7_save_0 rfl rfl ?_
  refine j_aload_n C dX7_save_1 rfl rfl ?_
  refine g_getI C (o0) fl_X7_109 (by rfl) dX7_save_2 ?_
  refine g_putI C (o0) fw_X7_221 (by rfl) rfl (fits_int _) dX7_save_5 ?_
  obtain ⟨Ia, hIa⟩ : ∃ z, z = up2 I 0 24 (I 0 14) := ⟨_, rfl⟩
  rw [← hIa]
  refine j_iconst (v := nI 0) C dX7_save_8 (by decide) ?_
  refine j_istore_n C dX7_save_9 rfl (by decide) ?_
  have lp : ∀ (fuel : Nat) (i : Nat) (I1 : II) (L1 : LL), 5 < fuel + i → i ≤ 5 → CP5 14 8 15 13 18 7 Ia I1 i → SVL L L1 i → J p l e (rmD 1) s m args below meth c (MQ below (QV G rg (fun I1 L1 => (∀ q, q ≠ 0 → q ≠ 14 → q ≠ 15 → q ≠ 18 → I1 q = I q) ∧ (∀ k, k ≠ 24 → I1 0 k = I 0 k) ∧ (∀ q, q ≠ 16 → q ≠ 17 → L1 q = L q) ∧ I1 0 24 = I 0 14 ∧ (∀ s, s < 5 → I1 14 s = I 8 s ∧ I1 15 s = I 13 s ∧ I1 18 s = vp_nar .boolean (I 7 s)) ∧ (∀ s, s < 5 → L1 16 s = L 9 s ∧ L1 16 (5 + s) = L 10 s) ∧ ∀ s, s < 25 → L1 17 s = L 11 s ∧ L1 17 (25 + s) = L 12 s)) args s 0 0 (rg_A G rg)) 2 G rg 0 0 I1 L1 10 [some (.ref (gB G + 0)), some (.int (nI i))] [] := by
    intro fuel
    induction fuel with
    | zero => intro i I1 L1 h1 h2 hC hL; exfalso; omega
    | succ fuel ih_lp =>
      intro i I1 L1 h1 h2 hC hL
      refine j_iload_n C dX7_save_10 rfl rfl ?_
      refine j_iconst (v := nI 5) C dX7_save_11 (by decide) ?_
      first | refine n_icmp_ge (tgt := 83) C (by omega) (by omega) dX7_save_12 (by decide) (fun h_12 => ?_) (fun h_12 => ?_) | refine j_icmp_ge (tgt := 83) C dX7_save_12 (by decide) (fun h_12 => ?_) (fun h_12 => ?_)
      · refine j_iconst (v := nI 0) C dX7_save_83 (by decide) ?_
        refine j_istore_n C dX7_save_84 rfl (by decide) ?_
        have e5 : i = 5 := by omega
        subst e5
        obtain ⟨I_c, hIc⟩ : ∃ z, z = I1 := ⟨_, rfl⟩
        obtain ⟨L_c, hLc⟩ : ∃ z, z = L1 := ⟨_, rfl⟩
        rw [← hIc, ← hLc]
        have hC2 : CP5 14 8 15 13 18 7 Ia I_c 5 := hIc ▸ hC
        have hL2 : SVL L L_c 5 := hLc ▸ hL
        have lk : ∀ (fuel : Nat) (i : Nat) (L1 : LL), 25 < fuel + i → i ≤ 25 → SVM L_c L1 i → J p l e (rmD 1) s m args below meth c (MQ below (QV G rg (fun I1 L1 => (∀ q, q ≠ 0 → q ≠ 14 → q ≠ 15 → q ≠ 18 → I1 q = I q) ∧ (∀ k, k ≠ 24 → I1 0 k = I 0 k) ∧ (∀ q, q ≠ 16 → q ≠ 17 → L1 q = L q) ∧ I1 0 24 = I 0 14 ∧ (∀ s, s < 5 → I1 14 s = I 8 s ∧ I1 15 s = I 13 s ∧ I1 18 s = vp_nar .boolean (I 7 s)) ∧ (∀ s, s < 5 → L1 16 s = L 9 s ∧ L1 16 (5 + s) = L 10 s) ∧ ∀ s, s < 25 → L1 17 s = L 11 s ∧ L1 17 (25 + s) = L 12 s)) args s 0 0 (rg_A G rg)) 2 G rg 0 0 I_c L1 85 [some (.ref (gB G + 0)), some (.int (nI i))] [] := by
          intro fuel
          induction fuel with
          | zero => intro i L1 h1 h2 hM; exfalso; omega
          | succ fuel ih_lk =>
            intro i L1 h1 h2 hM
            refine j_iload_n C dX7_save_85 rfl rfl ?_
            refine j_bipush (v := nI 25) C dX7_save_86 (by decide) ?_
            first | refine n_icmp_ge (tgt := 124) C (by omega) (by omega) dX7_save_88 (by decide) (fun h_88 => ?_) (fun h_88 => ?_) | refine j_icmp_ge (tgt := 124) C dX7_save_88 (by decide) (fun h_88 => ?_) (fun h_88 => ?_)
            · exact j_vret C hr dX7_save_124 (by subst hIa; exact ⟨fun q q0 a b c => by rw [hC2.1 q a b c, up2_ne _ q0], fun k hk => by rw [hC2.1 0 (by decide) (by decide) (by decide), up2_at, if_pos rfl, if_neg hk], fun q a b => by rw [hM.1 q b]; exact hL2.1 q a, by rw [hC2.1 0 (by decide) (by decide) (by decide), up2_at]; simp, fun s hs => by obtain ⟨z1, z2, z3⟩ := hC2.2 s hs; exact ⟨z1.trans (by rw [up2_ne _ (by decide)]), z2.trans (by rw [up2_ne _ (by decide)]), z3.trans (by rw [up2_ne _ (by decide)])⟩, fun s hs => by rw [hM.1 16 (by decide)]; exact hL2.2 s hs, fun s hs => by obtain ⟨z1, z2⟩ := hM.2 s (by omega); exact ⟨z1.trans (by rw [hL2.1 11 (by decide)]), z2.trans (by rw [hL2.1 12 (by decide)])⟩⟩)
            · refine j_aload_n C dX7_save_91 rfl rfl ?_
              refine g_getR C (o0) fl_X7_64 (by rfl) dX7_save_92 ?_
              refine j_iload_n C dX7_save_95 rfl rfl ?_
              refine j_aload_n C dX7_save_96 rfl rfl ?_
              refine g_getR C (o0) fl_X7_46 (by rfl) dX7_save_97 ?_
              refine j_iload_n C dX7_save_100 rfl rfl ?_
              refine g_lald C (a11) (by omega) (by decide) dX7_save_101 ?_
              refine t_l (y := L_c 11 i) (by rw [hM.1 11 (by decide)]) ?_
              refine g_last C (a17) (by omega) (by decide) dX7_save_102 ?_
              refine j_aload_n C dX7_save_103 rfl rfl ?_
              refine g_getR C (o0) fl_X7_64 (by rfl) dX7_save_104 ?_
              refine j_bipush (v := nI 25) C dX7_save_107 (by decide) ?_
              refine j_iload_n C dX7_save_109 rfl rfl ?_
              first | refine n_iadd C dX7_save_110 ?_ | refine j_iadd C dX7_save_110 ?_
              refine j_aload_n C dX7_save_111 rfl rfl ?_
              refine g_getR C (o0) fl_X7_49 (by rfl) dX7_save_112 ?_
              refine j_iload_n C dX7_save_115 rfl rfl ?_
              refine g_lald C (a12) (by omega) (by decide) dX7_save_116 ?_
              refine t_l (y := L_c 12 i) (by rw [up2_ne _ (by decide), hM.1 12 (by decide)]) ?_
              refine g_last C (a17) (by omega) (by decide) dX7_save_117 ?_
              first | refine n_iinc (n := 1) C dX7_save_118 rfl (by decide) ?_ | refine j_iinc C dX7_save_118 rfl rfl (by decide) ?_
              refine j_goto (tgt := 85) C dX7_save_121 (by decide) ?_
              exact ih_lk (i + 1) _ (by omega) (by omega) (SVM_s hM (by omega))
        exact lk 26 0 L_c (by omega) (by omega) ⟨fun _ _ => rfl, fun s hs => absurd hs (Nat.not_lt_zero s)⟩
      · refine j_aload_n C dX7_save_15 rfl rfl ?_
        refine g_getR C (o0) fl_X7_55 (by rfl) dX7_save_16 ?_
        refine j_iload_n C dX7_save_19 rfl rfl ?_
        refine j_aload_n C dX7_save_20 rfl rfl ?_
        refine g_getR C (o0) fl_X7_37 (by rfl) dX7_save_21 ?_
        refine j_iload_n C dX7_save_24 rfl rfl ?_
        refine g_iald C (a8) (by omega) (by decide) dX7_save_25 ?_
        refine t_i (y := Ia 8 i) (by rw [hC.1 8 (by decide) (by decide) (by decide)]) ?_
        refine g_iast C (a14) (by omega) (by decide) dX7_save_26 ?_
        refine j_aload_n C dX7_save_27 rfl rfl ?_
        refine g_getR C (o0) fl_X7_58 (by rfl) dX7_save_28 ?_
        refine j_iload_n C dX7_save_31 rfl rfl ?_
        refine j_aload_n C dX7_save_32 rfl rfl ?_
        refine g_getR C (o0) fl_X7_52 (by rfl) dX7_save_33 ?_
        refine j_iload_n C dX7_save_36 rfl rfl ?_
        refine g_iald C (a13) (by omega) (by decide) dX7_save_37 ?_
        refine t_i (y := Ia 13 i) (by rw [up2_ne _ (by decide), hC.1 13 (by decide) (by decide) (by decide)]) ?_
        refine g_iast C (a15) (by omega) (by decide) dX7_save_38 ?_
        refine j_aload_n C dX7_save_39 rfl rfl ?_
        refine g_getR C (o0) fl_X7_67 (by rfl) dX7_save_40 ?_
        refine j_iload_n C dX7_save_43 rfl rfl ?_
        refine j_aload_n C dX7_save_44 rfl rfl ?_
        refine g_getR C (o0) fl_X7_33 (by rfl) dX7_save_45 ?_
        refine j_iload_n C dX7_save_48 rfl rfl ?_
        refine g_zald C (a7) (by omega) (by decide) dX7_save_49 ?_
        refine t_i (y := Ia 7 i) (by rw [up2_ne _ (by decide), up2_ne _ (by decide), hC.1 7 (by decide) (by decide) (by decide)]) ?_
        refine g_zastn C a18 (by omega) (by decide) dX7_save_50 ?_
        refine j_aload_n C dX7_save_51 rfl rfl ?_
        refine g_getR C (o0) fl_X7_61 (by rfl) dX7_save_52 ?_
        refine j_iload_n C dX7_save_55 rfl rfl ?_
        refine j_aload_n C dX7_save_56 rfl rfl ?_
        refine g_getR C (o0) fl_X7_40 (by rfl) dX7_save_57 ?_
        refine j_iload_n C dX7_save_60 rfl rfl ?_
        refine g_lald C (a9) (by omega) (by decide) dX7_save_61 ?_
        refine t_l (y := L 9 i) (by rw [hL.1 9 (by decide)]) ?_
        refine g_last C (a16) (by omega) (by decide) dX7_save_62 ?_
        refine j_aload_n C dX7_save_63 rfl rfl ?_
        refine g_getR C (o0) fl_X7_61 (by rfl) dX7_save_64 ?_
        refine j_iconst (v := nI 5) C dX7_save_67 (by decide) ?_
        refine j_iload_n C dX7_save_68 rfl rfl ?_
        first | refine n_iadd C dX7_save_69 ?_ | refine j_iadd C dX7_save_69 ?_
        refine j_aload_n C dX7_save_70 rfl rfl ?_
        refine g_getR C (o0) fl_X7_43 (by rfl) dX7_save_71 ?_
        refine j_iload_n C dX7_save_74 rfl rfl ?_
        refine g_lald C (a10) (by omega) (by decide) dX7_save_75 ?_
        refine t_l (y := L 10 i) (by rw [up2_ne _ (by decide), hL.1 10 (by decide)]) ?_
        refine g_last C (a16) (by omega) (by decide) dX7_save_76 ?_
        first | refine n_iinc (n := 1) C dX7_save_77 rfl (by decide) ?_ | refine j_iinc C dX7_save_77 rfl rfl (by decide) ?_
        refine j_goto (tgt := 10) C dX7_save_80 (by decide) ?_
        exact ih_lp (i + 1) _ _ (by omega) (by omega) (CP5_s hC (by decide) (by decide) (by decide)) (SVL_s hL (by omega))
  exact lp 6 0 Ia L (by omega) (by omega) CP5_0 ⟨fun _ _ => rfl, fun s hs => absurd hs (Nat.not_lt_zero s)⟩

set_option maxHeartbeats 4000000 in
set_option maxRecDepth 20000 in
theorem c_X7_restore (l : Launch) (G : GT) (rg : RgT) (I : II) (L : LL) (hms : isMS rg) : CtV l yX7_restore cX7_restore 2 none 1 G rg I L [.ref (gB G + 0)] (fun I1 L1 => (∀ q, q ≠ 0 → q ≠ 7 → q ≠ 8 → q ≠ 13 → I1 q = I q) ∧ (∀ k, k ≠ 14 → I1 0 k = I 0 k) ∧ (∀ q, ¬ (9 ≤ q ∧ q ≤ 12) → L1 q = L q) ∧ I1 0 14 = I 0 24 ∧ (∀ s, s < 5 → I1 8 s = I 14 s ∧ I1 13 s = I 15 s ∧ I1 7 s = vp_nar .boolean (I 18 s)) ∧ (∀ s, s < 5 → L1 9 s = L 16 s ∧ L1 10 s = L 16 (5 + s)) ∧ ∀ s, s < 25 → L1 11 s = L 17 s ∧ L1 12 s = L 17 (25 + s)) := by
  refine ctV_of [some (.ref (gB G + 0)), none] rfl (Nat.le_of_ble_eq_true rfl) (by decide) ?_
  intro p e s m args below meth c C hr
  obtain ⟨o0, a1, a2, a3, a4, a5, a6, a7, a8, a9, a10, a11, a12, a13, a14, a15, a16, a17, a18, a19, a20, a21, a22, a23, a24, a25, a26⟩ := id hms
  refine j_aload_n C dX7_restore_0 rfl rfl ?_
  refine j_aload_n C dX7_restore_1 rfl rfl ?_
  refine g_getI C (o0) fl_X7_221 (by rfl) dX7_restore_2 ?_
  refine g_putI C (o0) fw_X7_109 (by rfl) rfl (fits_int _) dX7_restore_5 ?_
  obtain ⟨Ia, hIa⟩ : ∃ z, z = up2 I 0 14 (I 0 24) := ⟨_, rfl⟩
  rw [← hIa]
  refine j_iconst (v := nI 0) C dX7_restore_8 (by decide) ?_
  refine j_istore_n C dX7_restore_9 rfl (by decide) ?_
  have lp : ∀ (fuel : Nat) (i : Nat) (I1 : II) (L1 : LL), 5 < fuel + i → i ≤ 5 → CP5 8 14 13 15 7 18 Ia I1 i → RSL 9 10 16 16 5 L L1 i → J p l e (rmD 1) s m args below meth c (MQ below (QV G rg (fun I1 L1 => (∀ q, q ≠ 0 → q ≠ 7 → q ≠ 8 → q ≠ 13 → I1 q = I q) ∧ (∀ k, k ≠ 14 → I1 0 k = I 0 k) ∧ (∀ q, ¬ (9 ≤ q ∧ q ≤ 12) → L1 q = L q) ∧ I1 0 14 = I 0 24 ∧ (∀ s, s < 5 → I1 8 s = I 14 s ∧ I1 13 s = I 15 s ∧ I1 7 s = vp_nar .boolean (I 18 s)) ∧ (∀ s, s < 5 → L1 9 s = L 16 s ∧ L1 10 s = L 16 (5 + s)) ∧ ∀ s, s < 25 → L1 11 s = L 17 s ∧ L1 12 s = L 17 (25 + s))) args s 0 0 (rg_A G rg)) 2 G rg 0 0 I1 L1 10 [some (.ref (gB G + 0)), some (.int (nI i))] [] := by
    intro fuel
    induction fuel with
    | zero => intro i I1 L1 h1 h2 hC hL; exfalso; omega
    | succ fuel ih_lp =>
      intro i I1 L1 h1 h2 hC hL
      refine j_iload_n C dX7_restore_10 rfl rfl ?_
      refine j_iconst (v := nI 5) C dX7_restore_11 (by decide) ?_
      first | refine n_icmp_ge (tgt := 83) C (by omega) (by omega) dX7_restore_12 (by decide) (fun h_12 => ?_) (fun h_12 => ?_) | refine j_icmp_ge (tgt := 83) C dX7_restore_12 (by decide) (fun h_12 => ?_) (fun h_12 => ?_)
      · refine j_iconst (v := nI 0) C dX7_restore_83 (by decide) ?_
        refine j_istore_n C dX7_restore_84 rfl (by decide) ?_
        have e5 : i = 5 := by omega
        subst e5
        obtain ⟨I_c, hIc⟩ : ∃ z, z = I1 := ⟨_, rfl⟩
        obtain ⟨L_c, hLc⟩ : ∃ z, z = L1 := ⟨_, rfl⟩
        rw [← hIc, ← hLc]
        have hC2 : CP5 8 14 13 15 7 18 Ia I_c 5 := hIc ▸ hC
        have hL2 : RSL 9 10 16 16 5 L L_c 5 := hLc ▸ hL
        have lk : ∀ (fuel : Nat) (i : Nat) (L1 : LL), 25 < fuel + i → i ≤ 25 → RSL 11 12 17 17 25 L_c L1 i → J p l e (rmD 1) s m args below meth c (MQ below (QV G rg (fun I1 L1 => (∀ q, q ≠ 0 → q ≠ 7 → q ≠ 8 → q ≠ 13 → I1 q = I q) ∧ (∀ k, k ≠ 14 → I1 0 k = I 0 k) ∧ (∀ q, ¬ (9 ≤ q ∧ q ≤ 12) → L1 q = L q) ∧ I1 0 14 = I 0 24 ∧ (∀ s, s < 5 → I1 8 s = I 14 s ∧ I1 13 s = I 15 s ∧ I1 7 s = vp_nar .boolean (I 18 s)) ∧ (∀ s, s < 5 → L1 9 s = L 16 s ∧ L1 10 s = L 16 (5 + s)) ∧ ∀ s, s < 25 → L1 11 s = L 17 s ∧ L1 12 s = L 17 (25 + s))) args s 0 0 (rg_A G rg)) 2 G rg 0 0 I_c L1 85 [some (.ref (gB G + 0)), some (.int (nI i))] [] := by
          intro fuel
          induction fuel with
          | zero => intro i L1 h1 h2 hM; exfalso; omega
          | succ fuel ih_lk =>
            intro i L1 h1 h2 hM
            refine j_iload_n C dX7_restore_85 rfl rfl ?_
            refine j_bipush (v := nI 25) C dX7_restore_86 (by decide) ?_
            first | refine n_icmp_ge (tgt := 124) C (by omega) (by omega) dX7_restore_88 (by decide) (fun h_88 => ?_) (fun h_88 => ?_) | refine j_icmp_ge (tgt := 124) C dX7_restore_88 (by decide) (fun h_88 => ?_) (fun h_88 => ?_)
            · exact j_vret C hr dX7_restore_124 (by subst hIa; exact ⟨fun q q0 a b c => by rw [hC2.1 q b c a, up2_ne _ q0], fun k hk => by rw [hC2.1 0 (by decide) (by decide) (by decide), up2_at, if_pos rfl, if_neg hk], fun q hq => by rw [hM.1 q (by omega) (by omega)]; exact hL2.1 q (by omega) (by omega), by rw [hC2.1 0 (by decide) (by decide) (by decide), up2_at]; simp, fun s hs => by obtain ⟨z1, z2, z3⟩ := hC2.2 s hs; exact ⟨z1.trans (by rw [up2_ne _ (by decide)]), z2.trans (by rw [up2_ne _ (by decide)]), z3.trans (by rw [up2_ne _ (by decide)])⟩, fun s hs => by rw [hM.1 9 (by decide) (by decide), hM.1 10 (by decide) (by decide)]; exact hL2.2 s hs, fun s hs => by obtain ⟨z1, z2⟩ := hM.2 s (by omega); exact ⟨z1.trans (by rw [hL2.1 17 (by decide) (by decide)]), z2.trans (by rw [hL2.1 17 (by decide) (by decide)])⟩⟩)
            · refine j_aload_n C dX7_restore_91 rfl rfl ?_
              refine g_getR C (o0) fl_X7_46 (by rfl) dX7_restore_92 ?_
              refine j_iload_n C dX7_restore_95 rfl rfl ?_
              refine j_aload_n C dX7_restore_96 rfl rfl ?_
              refine g_getR C (o0) fl_X7_64 (by rfl) dX7_restore_97 ?_
              refine j_iload_n C dX7_restore_100 rfl rfl ?_
              refine g_lald C (a17) (by omega) (by decide) dX7_restore_101 ?_
              refine t_l (y := L_c 17 i) (by rw [hM.1 17 (by decide) (by decide)]) ?_
              refine g_last C (a11) (by omega) (by decide) dX7_restore_102 ?_
              refine j_aload_n C dX7_restore_103 rfl rfl ?_
              refine g_getR C (o0) fl_X7_49 (by rfl) dX7_restore_104 ?_
              refine j_iload_n C dX7_restore_107 rfl rfl ?_
              refine j_aload_n C dX7_restore_108 rfl rfl ?_
              refine g_getR C (o0) fl_X7_64 (by rfl) dX7_restore_109 ?_
              refine j_bipush (v := nI 25) C dX7_restore_112 (by decide) ?_
              refine j_iload_n C dX7_restore_114 rfl rfl ?_
              first | refine n_iadd C dX7_restore_115 ?_ | refine j_iadd C dX7_restore_115 ?_
              refine g_lald C (a17) (by omega) (by decide) dX7_restore_116 ?_
              refine t_l (y := L_c 17 (25 + i)) (by rw [up2_ne _ (by decide), hM.1 17 (by decide) (by decide)]) ?_
              refine g_last C (a12) (by omega) (by decide) dX7_restore_117 ?_
              first | refine n_iinc (n := 1) C dX7_restore_118 rfl (by decide) ?_ | refine j_iinc C dX7_restore_118 rfl rfl (by decide) ?_
              refine j_goto (tgt := 85) C dX7_restore_121 (by decide) ?_
              exact ih_lk (i + 1) _ (by omega) (by omega) (RSL_s hM (by decide))
        exact lk 26 0 L_c (by omega) (by omega) RSL_0
      · refine j_aload_n C dX7_restore_15 rfl rfl ?_
        refine g_getR C (o0) fl_X7_37 (by rfl) dX7_restore_16 ?_
        refine j_iload_n C dX7_restore_19 rfl rfl ?_
        refine j_aload_n C dX7_restore_20 rfl rfl ?_
        refine g_getR C (o0) fl_X7_55 (by rfl) dX7_restore_21 ?_
        refine j_iload_n C dX7_restore_24 rfl rfl ?_
        refine g_iald C (a14) (by omega) (by decide) dX7_restore_25 ?_
        refine t_i (y := Ia 14 i) (by rw [hC.1 14 (by decide) (by decide) (by decide)]) ?_
        refine g_iast C (a8) (by omega) (by decide) dX7_restore_26 ?_
        refine j_aload_n C dX7_restore_27 rfl rfl ?_
        refine g_getR C (o0) fl_X7_52 (by rfl) dX7_restore_28 ?_
        refine j_iload_n C dX7_restore_31 rfl rfl ?_
        refine j_aload_n C dX7_restore_32 rfl rfl ?_
        refine g_getR C (o0) fl_X7_58 (by rfl) dX7_restore_33 ?_
        refine j_iload_n C dX7_restore_36 rfl rfl ?_
        refine g_iald C (a15) (by omega) (by decide) dX7_restore_37 ?_
        refine t_i (y := Ia 15 i) (by rw [up2_ne _ (by decide), hC.1 15 (by decide) (by decide) (by decide)]) ?_
        refine g_iast C (a13) (by omega) (by decide) dX7_restore_38 ?_
        refine j_aload_n C dX7_restore_39 rfl rfl ?_
        refine g_getR C (o0) fl_X7_33 (by rfl) dX7_restore_40 ?_
        refine j_iload_n C dX7_restore_43 rfl rfl ?_
        refine j_aload_n C dX7_restore_44 rfl rfl ?_
        refine g_getR C (o0) fl_X7_67 (by rfl) dX7_restore_45 ?_
        refine j_iload_n C dX7_restore_48 rfl rfl ?_
        refine g_zald C (a18) (by omega) (by decide) dX7_restore_49 ?_
        refine t_i (y := Ia 18 i) (by rw [up2_ne _ (by decide), up2_ne _ (by decide), hC.1 18 (by decide) (by decide) (by decide)]) ?_
        refine g_zastn C a7 (by omega) (by decide) dX7_restore_50 ?_
        refine j_aload_n C dX7_restore_51 rfl rfl ?_
        refine g_getR C (o0) fl_X7_40 (by rfl) dX7_restore_52 ?_
        refine j_iload_n C dX7_restore_55 rfl rfl ?_
        refine j_aload_n C dX7_restore_56 rfl rfl ?_
        refine g_getR C (o0) fl_X7_61 (by rfl) dX7_restore_57 ?_
        refine j_iload_n C dX7_restore_60 rfl rfl ?_
        refine g_lald C (a16) (by omega) (by decide) dX7_restore_61 ?_
        refine t_l (y := L 16 i) (by rw [hL.1 16 (by decide) (by decide)]) ?_
        refine g_last C (a9) (by omega) (by decide) dX7_restore_62 ?_
        refine j_aload_n C dX7_restore_63 rfl rfl ?_
        refine g_getR C (o0) fl_X7_43 (by rfl) dX7_restore_64 ?_
        refine j_iload_n C dX7_restore_67 rfl rfl ?_
        refine j_aload_n C dX7_restore_68 rfl rfl ?_
        refine g_getR C (o0) fl_X7_61 (by rfl) dX7_restore_69 ?_
        refine j_iconst (v := nI 5) C dX7_restore_72 (by decide) ?_
        refine j_iload_n C dX7_restore_73 rfl rfl ?_
        first | refine n_iadd C dX7_restore_74 ?_ | refine j_iadd C dX7_restore_74 ?_
        refine g_lald C (a16) (by omega) (by decide) dX7_restore_75 ?_
        refine t_l (y := L 16 (5 + i)) (by rw [up2_ne _ (by decide), hL.1 16 (by decide) (by decide)]) ?_
        refine g_last C (a10) (by omega) (by decide) dX7_restore_76 ?_
        first | refine n_iinc (n := 1) C dX7_restore_77 rfl (by decide) ?_ | refine j_iinc C dX7_restore_77 rfl rfl (by decide) ?_
        refine j_goto (tgt := 10) C dX7_restore_80 (by decide) ?_
        exact ih_lp (i + 1) _ _ (by omega) (by omega) (CP5_s hC (by decide) (by decide) (by decide)) (RSL_s hL (by decide))
  exact lp 6 0 Ia L (by omega) (by omega) CP5_0 RSL_0
