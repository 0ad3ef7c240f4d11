/-! ===== the model: pivots found ===== -/
theorem lgc_m {x : Int64} : lg_cmp x 0 = -1 ↔ x < 0 := by
  unfold lg_cmp
  split
  · next h => exact ⟨fun q => absurd q (by decide), fun q => absurd (show (0 : Int64) < x from h) (Int64.not_lt.mpr (Int64.le_of_lt q))⟩
  · split
    · next h h2 => exact ⟨fun q => absurd q (by decide), fun q => by rw [h2] at q; exact absurd q Int64.lt_irrefl⟩
    · next h h2 => exact ⟨fun _ => Int64.lt_of_le_of_ne (Int64.not_lt.mp h) h2, fun _ => rfl⟩
theorem lgc_p {x : Int64} : lg_cmp x 0 = 1 ↔ 0 < x := by
  unfold lg_cmp
  split
  · next h => exact ⟨fun _ => h, fun _ => rfl⟩
  · next h => split
              · exact ⟨fun q => absurd q (by decide), fun q => absurd q h⟩
              · exact ⟨fun q => absurd q (by decide), fun q => absurd q h⟩
theorem sg_l {sg : Int32} {E : ES} {k : Nat} (h : eL E k = false) : isSg sg E k = false := by unfold isSg; rw [h]; rfl
theorem sg_mt {E : ES} {k : Nat} (h : eL E k = true) (h2 : (eM E k k).1 < 0) : isSg (-1) E k = true := by unfold isSg; rw [h, decide_eq_true (lgc_m.mpr h2)]; rfl
theorem sg_mf {E : ES} {k : Nat} (h2 : ¬ (eM E k k).1 < 0) : isSg (-1) E k = false := by unfold isSg; rw [decide_eq_false (fun q => h2 (lgc_m.mp q))]; exact Bool.and_false _
theorem sg_pt {E : ES} {k : Nat} (h : eL E k = true) (h2 : 0 < (eM E k k).1) : isSg 1 E k = true := by unfold isSg; rw [h, decide_eq_true (lgc_p.mpr h2)]; rfl
theorem sg_pf {E : ES} {k : Nat} (h2 : ¬ 0 < (eM E k k).1) : isSg 1 E k = false := by unfold isSg; rw [decide_eq_false (fun q => h2 (lgc_p.mp q))]; exact Bool.and_false _
theorem fd_t {P : Nat → Bool} {n u : Nat} (hu : u ≤ n) (h : P (ordn n u) = true) : nI (ordn n u) = ngO (ffo P n (n + 1 - u)) := by rw [ffo_t hu h]; rfl
theorem fd_f {P : Nat → Bool} {n u : Nat} {x : Int32} (hu : u ≤ n) (h : P (ordn n u) = false) (hx : x = ngO (ffo P n (n + 1 - (u + 1)))) : x = ngO (ffo P n (n + 1 - u)) := by rw [ffo_f hu h]; exact hx
def sgOf (b : Bool) : Int32 := if b = true then -1 else 1
def dI (t : Nat) : Int32 := nI t - 1
theorem dI_0 : dI 0 = -1 := by decide
theorem dI_s (t : Nat) : dI (t + 1) = nI t := by unfold dI; exact nat_sub1 t
theorem dI_c (t : Nat) : nI t + Int32.ofInt (-1) = dI t := by unfold dI; rw [Int32.sub_eq_add_neg]; rfl
theorem dI_lt {t : Nat} (ht : t < 2 ^ 20) : ¬ nI t < 0 := fun q => by
  rw [Int32.lt_iff_toInt_lt, nI_toInt (by omega), i32_0] at q; omega

set_option maxHeartbeats 4000000 in
set_option maxRecDepth 20000 in
theorem c_X7_firstDiagonal (l : Launch) (G : GT) (rg : RgT) (I : II) (L : LL) (n : Nat) (b : Bool) (E : ES) (hms : isMS rg) (hn : I 0 0 = nI n) (hn4 : n < 5) (hX : RelX n I L E) (hQ : MQm n L (eM E)) : CtI l yX7_firstDiagonal cX7_firstDiagonal 6 (some FieldType.int) 2 G rg I L [.ref (gB G + 0), .int (b2i b)] (fun r I1 L1 => r = ngO (ffo (isSg (sgOf b) E) n (n + 1)) ∧ I = I1 ∧ L = L1) := by
  refine ctI_of [some (.ref (gB G + 0)), some (.int (b2i b)), none, none, none, none] rfl (Nat.le_of_ble_eq_true rfl) (by decide) ?_
  intro p e s m args below meth c C hr
  obtain ⟨o0, a1, a2, a3, a4, a5, a6, a7, a8, a9, a10, a11, a12, a13, a14, a15, a16, a17, a18, a19, a20, a21, a22, a23, a24, a25, a26⟩ := id hms
  have lp : ∀ (fuel t : Nat) (x : Int32), t < fuel → t ≤ n + 1 → x = ngO (ffo (isSg (sgOf b) E) n (n + 1 - t)) → J p l e (rmD 2) s m args below meth c (MQ below (QI G rg (fun r I1 L1 => r = ngO (ffo (isSg (sgOf b) E) n (n + 1)) ∧ I = I1 ∧ L = L1)) args s 0 0 (rg_A G rg)) 6 G rg 0 0 I L 7 [some (.ref (gB G + 0)), some (.int (b2i b)), some (.int x), some (.int (dI t)), none, none] [] := by
    intro fuel
    induction fuel with
    | zero => intro t x h1; exfalso; omega
    | succ fuel ih_lp =>
      intro t x h1 h2 hx
      cases t with
      | zero =>
        refine j_iload_n C dX7_firstDiagonal_7 rfl rfl ?_
        refine j_if_lt (tgt := 95) C dX7_firstDiagonal_8 (by decide) (fun h_8 => ?_) (fun h_8 => ?_)
        · refine j_iload_n C dX7_firstDiagonal_95 rfl rfl ?_
          exact j_iret C hr dX7_firstDiagonal_96 ⟨hx, rfl, rfl⟩
        · exact absurd (show dI 0 < 0 by decide) h_8
      | succ u =>
        rw [dI_s]
        refine j_iload_n C dX7_firstDiagonal_7 rfl rfl ?_
        refine j_if_lt (tgt := 95) C dX7_firstDiagonal_8 (by decide) (fun h_8 => ?_) (fun h_8 => ?_)
        · exact absurd h_8 (dI_lt (by omega))
        · refine j_aload_n C dX7_firstDiagonal_11 rfl rfl ?_
          refine j_iload_n C dX7_firstDiagonal_12 rfl rfl ?_
          refine g_cvI C vc_X7_171 (c_X7_inOrder l G rg _ _ _ _ hms (by assumption) (by omega) (by omega)) ⟨Nat.le_of_ble_eq_true rfl, Nat.le_of_ble_eq_true rfl⟩ (o0) rfl rfl (Nat.le_of_ble_eq_true rfl) ⟨Nat.zero_le _, Nat.zero_le _⟩ dX7_firstDiagonal_13 (fun r_13 I_13 L_13 p_13 => ?_)
          obtain ⟨rfl, rfl, rfl⟩ := p_13
          have hk := ordn_le n u
          have hq : L 3 (6 * ordn n u) = (eM E (ordn n u) (ordn n u)).1 := by rw [show 6 * ordn n u = 5 * ordn n u + ordn n u by omega]; exact congrArg Prod.fst (hQ _ _ hk hk)
          refine j_istore C dX7_firstDiagonal_16 (by decide) ?_
          refine j_iload_n C dX7_firstDiagonal_18 rfl rfl ?_
          first | refine n_if_eq (tgt := 45) C dX7_firstDiagonal_19 (by decide) (fun h_19 => ?_) (fun h_19 => ?_) | refine j_if_eq (tgt := 45) C dX7_firstDiagonal_19 (by decide) (fun h_19 => ?_) (fun h_19 => ?_)
          · refine j_aload_n C dX7_firstDiagonal_45 rfl rfl ?_
            refine g_getR C (o0) fl_X7_20 (by rfl) dX7_firstDiagonal_46 ?_
            refine j_bipush (v := nI 6) C dX7_firstDiagonal_49 (by decide) ?_
            refine j_iload C dX7_firstDiagonal_51 rfl ?_
            first | refine n_imul C dX7_firstDiagonal_53 ?_ | refine j_imul C dX7_firstDiagonal_53 ?_
            refine g_lald C (a3) (by omega) (by decide) dX7_firstDiagonal_54 ?_
            refine t_l hq ?_
            refine j_lconst (v := 0) C dX7_firstDiagonal_55 (by decide) ?_
            refine j_lc_le (tgt := 64) C dX7_firstDiagonal_56 dX7_firstDiagonal_57 (by decide) (fun h_57 => ?_) (fun h_57 => ?_)
            · refine j_iconst (v := nI 0) C dX7_firstDiagonal_64 (by decide) ?_
              refine j_istore C dX7_firstDiagonal_65 (by decide) ?_
              refine j_aload_n C dX7_firstDiagonal_67 rfl rfl ?_
              refine g_getR C (o0) fl_X7_33 (by rfl) dX7_firstDiagonal_68 ?_
              refine j_iload C dX7_firstDiagonal_71 rfl ?_
              refine g_zald C (a7) (by omega) (by decide) dX7_firstDiagonal_73 ?_
              refine t_i (hX.1 _ hk) ?_
              first | refine n_if_eq (tgt := 87) C dX7_firstDiagonal_74 (by decide) (fun h_74 => ?_) (fun h_74 => ?_) | refine j_if_eq (tgt := 87) C dX7_firstDiagonal_74 (by decide) (fun h_74 => ?_) (fun h_74 => ?_)
              · refine j_iload_n C dX7_firstDiagonal_87 rfl rfl ?_
                refine j_istore_n C dX7_firstDiagonal_88 rfl (by decide) ?_
                refine j_iinc C dX7_firstDiagonal_89 rfl (dI_c u) (by decide) ?_
                refine j_goto (tgt := 7) C dX7_firstDiagonal_92 (by decide) ?_
                try refine j_rm 5 ?_
                try refine j_rm 4 ?_
                refine ih_lp u _ (by omega) (by omega) ?_
                first
                | exact fd_f (by omega) (sg_l h_74) hx
                | (rw [h_19]; exact fd_t (by omega) (sg_mt h_74 (Int64.not_le.mp h_34)))
                | (rw [h_19]; exact fd_t (by omega) (sg_pt h_74 (Int64.not_le.mp h_57)))
                | (rw [h_19] at hx ⊢; exact fd_f (by omega) (sg_mf (Int64.not_lt.mpr h_34)) hx)
                | (rw [h_19] at hx ⊢; exact fd_f (by omega) (sg_pf (Int64.not_lt.mpr h_57)) hx)
              · refine j_iload C dX7_firstDiagonal_77 rfl ?_
                refine j_if_eq (tgt := 87) C dX7_firstDiagonal_79 (by decide) (fun h_79 => ?_) (fun h_79 => ?_)
                · refine j_iload_n C dX7_firstDiagonal_87 rfl rfl ?_
                  refine j_istore_n C dX7_firstDiagonal_88 rfl (by decide) ?_
                  refine j_iinc C dX7_firstDiagonal_89 rfl (dI_c u) (by decide) ?_
                  refine j_goto (tgt := 7) C dX7_firstDiagonal_92 (by decide) ?_
                  try refine j_rm 5 ?_
                  try refine j_rm 4 ?_
                  refine ih_lp u _ (by omega) (by omega) ?_
                  first
                  | exact fd_f (by omega) (sg_l h_74) hx
                  | (rw [h_19]; exact fd_t (by omega) (sg_mt h_74 (Int64.not_le.mp h_34)))
                  | (rw [h_19]; exact fd_t (by omega) (sg_pt h_74 (Int64.not_le.mp h_57)))
                  | (rw [h_19] at hx ⊢; exact fd_f (by omega) (sg_mf (Int64.not_lt.mpr h_34)) hx)
                  | (rw [h_19] at hx ⊢; exact fd_f (by omega) (sg_pf (Int64.not_lt.mpr h_57)) hx)
                · exact absurd rfl h_79
            · refine j_iconst (v := nI 1) C dX7_firstDiagonal_60 (by decide) ?_
              refine j_goto (tgt := 65) C dX7_firstDiagonal_61 (by decide) ?_
              refine j_istore C dX7_firstDiagonal_65 (by decide) ?_
              refine j_aload_n C dX7_firstDiagonal_67 rfl rfl ?_
              refine g_getR C (o0) fl_X7_33 (by rfl) dX7_firstDiagonal_68 ?_
              refine j_iload C dX7_firstDiagonal_71 rfl ?_
              refine g_zald C (a7) (by omega) (by decide) dX7_firstDiagonal_73 ?_
              refine t_i (hX.1 _ hk) ?_
              first | refine n_if_eq (tgt := 87) C dX7_firstDiagonal_74 (by decide) (fun h_74 => ?_) (fun h_74 => ?_) | refine j_if_eq (tgt := 87) C dX7_firstDiagonal_74 (by decide) (fun h_74 => ?_) (fun h_74 => ?_)
              · refine j_iload_n C dX7_firstDiagonal_87 rfl rfl ?_
                refine j_istore_n C dX7_firstDiagonal_88 rfl (by decide) ?_
                refine j_iinc C dX7_firstDiagonal_89 rfl (dI_c u) (by decide) ?_
                refine j_goto (tgt := 7) C dX7_firstDiagonal_92 (by decide) ?_
                try refine j_rm 5 ?_
                try refine j_rm 4 ?_
                refine ih_lp u _ (by omega) (by omega) ?_
                first
                | exact fd_f (by omega) (sg_l h_74) hx
                | (rw [h_19]; exact fd_t (by omega) (sg_mt h_74 (Int64.not_le.mp h_34)))
                | (rw [h_19]; exact fd_t (by omega) (sg_pt h_74 (Int64.not_le.mp h_57)))
                | (rw [h_19] at hx ⊢; exact fd_f (by omega) (sg_mf (Int64.not_lt.mpr h_34)) hx)
                | (rw [h_19] at hx ⊢; exact fd_f (by omega) (sg_pf (Int64.not_lt.mpr h_57)) hx)
              · refine j_iload C dX7_firstDiagonal_77 rfl ?_
                refine j_if_eq (tgt := 87) C dX7_firstDiagonal_79 (by decide) (fun h_79 => ?_) (fun h_79 => ?_)
                · exact absurd h_79 (by decide)
                · refine j_iload C dX7_firstDiagonal_82 rfl ?_
                  refine j_goto (tgt := 88) C dX7_firstDiagonal_84 (by decide) ?_
                  refine j_istore_n C dX7_firstDiagonal_88 rfl (by decide) ?_
                  refine j_iinc C dX7_firstDiagonal_89 rfl (dI_c u) (by decide) ?_
                  refine j_goto (tgt := 7) C dX7_firstDiagonal_92 (by decide) ?_
                  try refine j_rm 5 ?_
                  try refine j_rm 4 ?_
                  refine ih_lp u _ (by omega) (by omega) ?_
                  first
                  | exact fd_f (by omega) (sg_l h_74) hx
                  | (rw [h_19]; exact fd_t (by omega) (sg_mt h_74 (Int64.not_le.mp h_34)))
                  | (rw [h_19]; exact fd_t (by omega) (sg_pt h_74 (Int64.not_le.mp h_57)))
                  | (rw [h_19] at hx ⊢; exact fd_f (by omega) (sg_mf (Int64.not_lt.mpr h_34)) hx)
                  | (rw [h_19] at hx ⊢; exact fd_f (by omega) (sg_pf (Int64.not_lt.mpr h_57)) hx)
          · refine j_aload_n C dX7_firstDiagonal_22 rfl rfl ?_
            refine g_getR C (o0) fl_X7_20 (by rfl) dX7_firstDiagonal_23 ?_
            refine j_bipush (v := nI 6) C dX7_firstDiagonal_26 (by decide) ?_
            refine j_iload C dX7_firstDiagonal_28 rfl ?_
            first | refine n_imul C dX7_firstDiagonal_30 ?_ | refine j_imul C dX7_firstDiagonal_30 ?_
            refine g_lald C (a3) (by omega) (by decide) dX7_firstDiagonal_31 ?_
            refine t_l hq ?_
            refine j_lconst (v := 0) C dX7_firstDiagonal_32 (by decide) ?_
            refine j_lc_ge (tgt := 41) C dX7_firstDiagonal_33 dX7_firstDiagonal_34 (by decide) (fun h_34 => ?_) (fun h_34 => ?_)
            · refine j_iconst (v := nI 0) C dX7_firstDiagonal_41 (by decide) ?_
              refine j_goto (tgt := 65) C dX7_firstDiagonal_42 (by decide) ?_
              refine j_istore C dX7_firstDiagonal_65 (by decide) ?_
              refine j_aload_n C dX7_firstDiagonal_67 rfl rfl ?_
              refine g_getR C (o0) fl_X7_33 (by rfl) dX7_firstDiagonal_68 ?_
              refine j_iload C dX7_firstDiagonal_71 rfl ?_
              refine g_zald C (a7) (by omega) (by decide) dX7_firstDiagonal_73 ?_
              refine t_i (hX.1 _ hk) ?_
              first | refine n_if_eq (tgt := 87) C dX7_firstDiagonal_74 (by decide) (fun h_74 => ?_) (fun h_74 => ?_) | refine j_if_eq (tgt := 87) C dX7_firstDiagonal_74 (by decide) (fun h_74 => ?_) (fun h_74 => ?_)
              · refine j_iload_n C dX7_firstDiagonal_87 rfl rfl ?_
                refine j_istore_n C dX7_firstDiagonal_88 rfl (by decide) ?_
                refine j_iinc C dX7_firstDiagonal_89 rfl (dI_c u) (by decide) ?_
                refine j_goto (tgt := 7) C dX7_firstDiagonal_92 (by decide) ?_
                try refine j_rm 5 ?_
                try refine j_rm 4 ?_
                refine ih_lp u _ (by omega) (by omega) ?_
                first
                | exact fd_f (by omega) (sg_l h_74) hx
                | (rw [h_19]; exact fd_t (by omega) (sg_mt h_74 (Int64.not_le.mp h_34)))
                | (rw [h_19]; exact fd_t (by omega) (sg_pt h_74 (Int64.not_le.mp h_57)))
                | (rw [h_19] at hx ⊢; exact fd_f (by omega) (sg_mf (Int64.not_lt.mpr h_34)) hx)
                | (rw [h_19] at hx ⊢; exact fd_f (by omega) (sg_pf (Int64.not_lt.mpr h_57)) hx)
              · refine j_iload C dX7_firstDiagonal_77 rfl ?_
                refine j_if_eq (tgt := 87) C dX7_firstDiagonal_79 (by decide) (fun h_79 => ?_) (fun h_79 => ?_)
                · refine j_iload_n C dX7_firstDiagonal_87 rfl rfl ?_
                  refine j_istore_n C dX7_firstDiagonal_88 rfl (by decide) ?_
                  refine j_iinc C dX7_firstDiagonal_89 rfl (dI_c u) (by decide) ?_
                  refine j_goto (tgt := 7) C dX7_firstDiagonal_92 (by decide) ?_
                  try refine j_rm 5 ?_
                  try refine j_rm 4 ?_
                  refine ih_lp u _ (by omega) (by omega) ?_
                  first
                  | exact fd_f (by omega) (sg_l h_74) hx
                  | (rw [h_19]; exact fd_t (by omega) (sg_mt h_74 (Int64.not_le.mp h_34)))
                  | (rw [h_19]; exact fd_t (by omega) (sg_pt h_74 (Int64.not_le.mp h_57)))
                  | (rw [h_19] at hx ⊢; exact fd_f (by omega) (sg_mf (Int64.not_lt.mpr h_34)) hx)
                  | (rw [h_19] at hx ⊢; exact fd_f (by omega) (sg_pf (Int64.not_lt.mpr h_57)) hx)
                · exact absurd rfl h_79
            · refine j_iconst (v := nI 1) C dX7_firstDiagonal_37 (by decide) ?_
              refine j_goto (tgt := 65) C dX7_firstDiagonal_38 (by decide) ?_
              refine j_istore C dX7_firstDiagonal_65 (by decide) ?_
              refine j_aload_n C dX7_firstDiagonal_67 rfl rfl ?_
              refine g_getR C (o0) fl_X7_33 (by rfl) dX7_firstDiagonal_68 ?_
              refine j_iload C dX7_firstDiagonal_71 rfl ?_
              refine g_zald C (a7) (by omega) (by decide) dX7_firstDiagonal_73 ?_
              refine t_i (hX.1 _ hk) ?_
              first | refine n_if_eq (tgt := 87) C dX7_firstDiagonal_74 (by decide) (fun h_74 => ?_) (fun h_74 => ?_) | refine j_if_eq (tgt := 87) C dX7_firstDiagonal_74 (by decide) (fun h_74 => ?_) (fun h_74 => ?_)
              · refine j_iload_n C dX7_firstDiagonal_87 rfl rfl ?_
                refine j_istore_n C dX7_firstDiagonal_88 rfl (by decide) ?_
                refine j_iinc C dX7_firstDiagonal_89 rfl (dI_c u) (by decide) ?_
                refine j_goto (tgt := 7) C dX7_firstDiagonal_92 (by decide) ?_
                try refine j_rm 5 ?_
                try refine j_rm 4 ?_
                refine ih_lp u _ (by omega) (by omega) ?_
                first
                | exact fd_f (by omega) (sg_l h_74) hx
                | (rw [h_19]; exact fd_t (by omega) (sg_mt h_74 (Int64.not_le.mp h_34)))
                | (rw [h_19]; exact fd_t (by omega) (sg_pt h_74 (Int64.not_le.mp h_57)))
                | (rw [h_19] at hx ⊢; exact fd_f (by omega) (sg_mf (Int64.not_lt.mpr h_34)) hx)
                | (rw [h_19] at hx ⊢; exact fd_f (by omega) (sg_pf (Int64.not_lt.mpr h_57)) hx)
              · refine j_iload C dX7_firstDiagonal_77 rfl ?_
                refine j_if_eq (tgt := 87) C dX7_firstDiagonal_79 (by decide) (fun h_79 => ?_) (fun h_79 => ?_)
                · exact absurd h_79 (by decide)
                · refine j_iload C dX7_firstDiagonal_82 rfl ?_
                  refine j_goto (tgt := 88) C dX7_firstDiagonal_84 (by decide) ?_
                  refine j_istore_n C dX7_firstDiagonal_88 rfl (by decide) ?_
                  refine j_iinc C dX7_firstDiagonal_89 rfl (dI_c u) (by decide) ?_
                  refine j_goto (tgt := 7) C dX7_firstDiagonal_92 (by decide) ?_
                  try refine j_rm 5 ?_
                  try refine j_rm 4 ?_
                  refine ih_lp u _ (by omega) (by omega) ?_
                  first
                  | exact fd_f (by omega) (sg_l h_74) hx
                  | (rw [h_19]; exact fd_t (by omega) (sg_mt h_74 (Int64.not_le.mp h_34)))
                  | (rw [h_19]; exact fd_t (by omega) (sg_pt h_74 (Int64.not_le.mp h_57)))
                  | (rw [h_19] at hx ⊢; exact fd_f (by omega) (sg_mf (Int64.not_lt.mpr h_34)) hx)
                  | (rw [h_19] at hx ⊢; exact fd_f (by omega) (sg_pf (Int64.not_lt.mpr h_57)) hx)
  refine j_iconst (v := (-1)) C dX7_firstDiagonal_0 (by decide) ?_
  refine j_istore_n C dX7_firstDiagonal_1 rfl (by decide) ?_
  refine j_aload_n C dX7_firstDiagonal_2 rfl rfl ?_
  refine g_getI C (o0) fl_X7_7 (by rfl) dX7_firstDiagonal_3 ?_
  refine t_i (y := dI (n + 1)) (hn.trans (dI_s n).symm) ?_
  refine j_istore_n C dX7_firstDiagonal_6 rfl (by decide) ?_
  exact lp (n + 2) (n + 1) (-1) (by omega) (by omega) (by rw [Nat.sub_self]; rfl)

theorem into_q {L : LL} {a b q : Nat} {x y : Int64} : ((up2 (up2 (up2 (up2 L 3 a x) 4 a y) 3 b x) 4 b y) 3 q, (up2 (up2 (up2 (up2 L 3 a x) 4 a y) 3 b x) 4 b y) 4 q) = if q = b ∨ q = a then (x, y) else (L 3 q, L 4 q) := by
  simp only [up2_at]
  by_cases h1 : q = b
  · simp [h1]
  · by_cases h2 : q = a
    · simp [h2]
    · simp [h1, h2]
set_option maxHeartbeats 4000000 in
set_option maxRecDepth 20000 in
theorem c_X7_into (l : Launch) (G : GT) (rg : RgT) (I : II) (L : LL) (i j : Nat) (hms : isMS rg) (hi : i < 5) (hj : j < 5) : CtV l yX7_into cX7_into 3 none 1 G rg I L [.ref (gB G + 0), .int (nI i), .int (nI j)] (fun I1 L1 => I = I1 ∧ (∀ q, q ≠ 3 → q ≠ 4 → L1 q = L q) ∧ (∀ q, (L1 3 q, L1 4 q) = if q = 5 * j + i ∨ q = 5 * i + j then (L 0 5, L 0 6) else (L 3 q, L 4 q))) := by
  refine ctV_of [some (.ref (gB G + 0)), some (.int (nI i)), some (.int (nI j))] rfl (Nat.le_of_ble_eq_true rfl) (by decide) ?_
  intro p e s m args below meth c C hr
  obtain ⟨o0, a1, a2, a3, a4, a5, a6, a7, a8, a9, a10, a11, a12, a13, a14, a15, a16, a17, a18, a19, a20, a21, a22, a23, a24, a25, a26⟩ := id hms
  refine j_aload_n C dX7_into_0 rfl rfl ?_
  refine g_getR C (o0) fl_X7_20 (by rfl) dX7_into_1 ?_
  refine j_iconst (v := nI 5) C dX7_into_4 (by decide) ?_
  refine j_iload_n C dX7_into_5 rfl rfl ?_
  first | refine n_imul C dX7_into_6 ?_ | refine j_imul C dX7_into_6 ?_
  refine j_iload_n C dX7_into_7 rfl rfl ?_
  first | refine n_iadd C dX7_into_8 ?_ | refine j_iadd C dX7_into_8 ?_
  refine j_aload_n C dX7_into_9 rfl rfl ?_
  refine g_getL C (o0) fl_X7_147 (by rfl) dX7_into_10 ?_
  refine g_last C (a3) (by omega) (by decide) dX7_into_13 ?_
  refine j_aload_n C dX7_into_14 rfl rfl ?_
  refine g_getR C (o0) fl_X7_24 (by rfl) dX7_into_15 ?_
  refine j_iconst (v := nI 5) C dX7_into_18 (by decide) ?_
  refine j_iload_n C dX7_into_19 rfl rfl ?_
  first | refine n_imul C dX7_into_20 ?_ | refine j_imul C dX7_into_20 ?_
  refine j_iload_n C dX7_into_21 rfl rfl ?_
  first | refine n_iadd C dX7_into_22 ?_ | refine j_iadd C dX7_into_22 ?_
  refine j_aload_n C dX7_into_23 rfl rfl ?_
  refine g_getL C (o0) fl_X7_151 (by rfl) dX7_into_24 ?_
  refine t_l (y := L 0 6) (by rw [up2_ne _ (by decide)]) ?_
  refine g_last C (a4) (by omega) (by decide) dX7_into_27 ?_
  refine j_aload_n C dX7_into_28 rfl rfl ?_
  refine g_getR C (o0) fl_X7_20 (by rfl) dX7_into_29 ?_
  refine j_iconst (v := nI 5) C dX7_into_32 (by decide) ?_
  refine j_iload_n C dX7_into_33 rfl rfl ?_
  first | refine n_imul C dX7_into_34 ?_ | refine j_imul C dX7_into_34 ?_
  refine j_iload_n C dX7_into_35 rfl rfl ?_
  first | refine n_iadd C dX7_into_36 ?_ | refine j_iadd C dX7_into_36 ?_
  refine j_aload_n C dX7_into_37 rfl rfl ?_
  refine g_getL C (o0) fl_X7_147 (by rfl) dX7_into_38 ?_
  refine t_l (y := L 0 5) (by rw [up2_ne _ (by decide), up2_ne _ (by decide)]) ?_
  refine g_last C (a3) (by omega) (by decide) dX7_into_41 ?_
  refine j_aload_n C dX7_into_42 rfl rfl ?_
  refine g_getR C (o0) fl_X7_24 (by rfl) dX7_into_43 ?_
  refine j_iconst (v := nI 5) C dX7_into_46 (by decide) ?_
  refine j_iload_n C dX7_into_47 rfl rfl ?_
  first | refine n_imul C dX7_into_48 ?_ | refine j_imul C dX7_into_48 ?_
  refine j_iload_n C dX7_into_49 rfl rfl ?_
  first | refine n_iadd C dX7_into_50 ?_ | refine j_iadd C dX7_into_50 ?_
  refine j_aload_n C dX7_into_51 rfl rfl ?_
  refine g_getL C (o0) fl_X7_151 (by rfl) dX7_into_52 ?_
  refine t_l (y := L 0 6) (by rw [up2_ne _ (by decide), up2_ne _ (by decide), up2_ne _ (by decide)]) ?_
  refine g_last C (a4) (by omega) (by decide) dX7_into_55 ?_
  exact j_vret C hr dX7_into_56 (⟨rfl, fun q q3 q4 => by rw [up2_ne _ q4, up2_ne _ q3, up2_ne _ q4, up2_ne _ q3], fun q => into_q⟩)

/-- the model's pair so far: none in front of this place, or the one -/
def FPn (I : II) : Prop := I 0 22 = -1
def FPf (n : Nat) (E : ES) (I : II) : Prop := ∃ i j, ffp (isPr E) n (n + 1) = some (i, j) ∧ i ≤ n ∧ I 0 22 = nI i ∧ I 0 23 = nI j
theorem fp_t {n : Nat} {E : ES} {I : II} {Q : Prop} (hD : (I 0 22 = -1 ∧ Q) ∨ FPf n E I) (h : 0 ≤ I 0 22) : FPf n E I := by
  rcases hD with ⟨h1, _⟩ | h1
  · rw [h1] at h; exact absurd h (by decide)
  · exact h1
theorem fp_f {n : Nat} {E : ES} {I : II} {Q : Prop} (hn : n < 5) (hD : (I 0 22 = -1 ∧ Q) ∨ FPf n E I) (h : ¬ 0 ≤ I 0 22) : I 0 22 = -1 ∧ Q := by
  rcases hD with h1 | ⟨i, j, _, h2, h3, _⟩
  · exact h1
  · exfalso; apply h; rw [h3, Int32.le_iff_toInt_le, nI_toInt (by omega), i32_0]; omega
theorem pr_1 {E : ES} {i j : Nat} (h : eL E i = false) : isPr E i j = false := by unfold isPr; rw [h]; rfl
theorem pr_2 {E : ES} {i j : Nat} (h : eL E j = false) : isPr E i j = false := by unfold isPr; rw [h]; exact Bool.and_false _
theorem pr_3 {E : ES} {i j : Nat} (h : (eM E i j).1 = 0) : isPr E i j = false := by unfold isPr; rw [decide_eq_false (fun q => q ((lgc_0 _).mpr h)), Bool.and_false]; exact Bool.and_false _
theorem pr_4 {E : ES} {i j : Nat} (h1 : eL E i = true) (h2 : eL E j = true) (h : ¬ (eM E i j).1 = 0) : isPr E i j = true := by unfold isPr; rw [h1, h2, decide_eq_true (p := ¬ lg_cmp (eM E i j).1 0 = 0) (fun q => h ((lgc_0 _).mp q))]; rfl
theorem fq_s {P : Nat → Bool} {n o p : Nat} (hp : p ≤ n) (h : P (ordn n p) = false) (he : ffo P n (n + 1 - p) = ffo P n (n - o)) : ffo P n (n + 1 - (p + 1)) = ffo P n (n - o) := by rw [← ffo_f hp h]; exact he
def FPr (I I1 : II) : Prop := (∀ q, q ≠ 0 → I1 q = I q) ∧ ∀ k, k ≠ 22 → k ≠ 23 → I1 0 k = I 0 k
theorem FPr.u {I I1 : II} (h : FPr I I1) {k : Nat} {v : Int32} (hk : k = 22 ∨ k = 23) : FPr I (up2 I1 0 k v) := ⟨fun q hq => by rw [up2_ne _ hq]; exact h.1 q hq, fun j h1 h2 => by rw [up2_at, if_pos rfl, if_neg (by omega)]; exact h.2 j h1 h2⟩
theorem FPf_n {n : Nat} {E : ES} {I : II} {o p : Nat} (ho : o ≤ n) (hp : p ≤ n) (h : isPr E (ordn n o) (ordn n p) = true) (he : ffo (isPr E (ordn n o)) n (n + 1 - p) = ffo (isPr E (ordn n o)) n (n - o)) (hz : ffp (isPr E) n (n + 1 - o) = ffp (isPr E) n (n + 1)) : FPf n E (up2 (up2 I 0 22 (nI (ordn n o))) 0 23 (nI (ordn n p))) := by
  refine ⟨ordn n o, ordn n p, ?_, ordn_le n o, ?_, ?_⟩
  · rw [← hz]; exact ffp_t ho (he.symm.trans (ffo_t hp h))
  · rw [up2_at, up2_at]; simp
  · rw [up2_at]; simp
set_option maxHeartbeats 4000000 in
set_option maxRecDepth 20000 in
theorem c_X7_findPair (l : Launch) (G : GT) (rg : RgT) (I : II) (L : LL) (n : Nat) (E : ES) (hms : isMS rg) (hn : I 0 0 = nI n) (hn4 : n < 5) (hX : RelX n I L E) (hQ : MQm n L (eM E)) : CtI l yX7_findPair cX7_findPair 5 (some FieldType.boolean) 2 G rg I L [.ref (gB G + 0)] (fun r I1 L1 => L = L1 ∧ FPr I I1 ∧ ((r = b2i true ∧ FPf n E I1) ∨ (r = b2i false ∧ ffp (isPr E) n (n + 1) = none))) := by
  refine ctI_of [some (.ref (gB G + 0)), none, none, none, none] rfl (Nat.le_of_ble_eq_true rfl) (by decide) ?_
  intro p e s m args below meth c C hr
  obtain ⟨o0, a1, a2, a3, a4, a5, a6, a7, a8, a9, a10, a11, a12, a13, a14, a15, a16, a17, a18, a19, a20, a21, a22, a23, a24, a25, a26⟩ := id hms
  have lp : ∀ (fuel : Nat) (o : Nat) (I1 : II), n + 1 < fuel + o → o ≤ n + 1 → FPr I I1 → (I1 0 22 = -1 ∧ ffp (isPr E) n (n + 1 - o) = ffp (isPr E) n (n + 1)) ∨ FPf n E I1 → J p l e (rmD 2) s m args below meth c (MQ below (QI G rg (fun r I1 L1 => L = L1 ∧ FPr I I1 ∧ ((r = b2i true ∧ FPf n E I1) ∨ (r = b2i false ∧ ffp (isPr E) n (n + 1) = none)))) args s 0 0 (rg_A G rg)) 5 G rg 0 0 I1 L 7 [some (.ref (gB G + 0)), some (.int (nI o)), none, none, none] [] := by
    intro fuel
    induction fuel with
    | zero => intro o I1 h1 h2 hP1 hD; exfalso; omega
    | succ fuel ih_lp =>
      intro o I1 h1 h2 hP1 hD
      refine j_iload_n C dX7_findPair_7 rfl rfl ?_
      refine j_aload_n C dX7_findPair_8 rfl rfl ?_
      refine g_getI C (o0) fl_X7_7 (by rfl) dX7_findPair_9 ?_
      refine t_i (y := nI n) ((hP1.2 0 (by decide) (by decide)).trans hn) ?_
      first | refine n_icmp_gt (tgt := 112) C (by omega) (by omega) dX7_findPair_12 (by decide) (fun h_12 => ?_) (fun h_12 => ?_) | refine j_icmp_gt (tgt := 112) C dX7_findPair_12 (by decide) (fun h_12 => ?_) (fun h_12 => ?_)
      · refine j_aload_n C dX7_findPair_112 rfl rfl ?_
        refine g_getI C (o0) fl_X7_189 (by rfl) dX7_findPair_113 ?_
        refine j_if_lt (tgt := 123) C dX7_findPair_116 (by decide) (fun h_116 => ?_) (fun h_116 => ?_)
        · refine j_iconst (v := nI 0) C dX7_findPair_123 (by decide) ?_
          exact j_zret C hr (by first | rfl | exact b2i_n _ rfl) dX7_findPair_124 (by first | exact ⟨rfl, hP1, Or.inl ⟨rfl, fp_t hD (Int32.not_lt.mp h_116)⟩⟩ | exact ⟨rfl, hP1, Or.inr ⟨rfl, by have hz := (fp_f hn4 hD (fun q => absurd h_116 (Int32.not_lt.mpr q))).2; rw [← hz]; exact ffp_e (by omega)⟩⟩ | exact absurd h_116 (Int32.not_lt.mpr h_19))
        · refine j_iconst (v := nI 1) C dX7_findPair_119 (by decide) ?_
          refine j_goto (tgt := 124) C dX7_findPair_120 (by decide) ?_
          exact j_zret C hr (by first | rfl | exact b2i_n _ rfl) dX7_findPair_124 (by first | exact ⟨rfl, hP1, Or.inl ⟨rfl, fp_t hD (Int32.not_lt.mp h_116)⟩⟩ | exact ⟨rfl, hP1, Or.inr ⟨rfl, by have hz := (fp_f hn4 hD (fun q => absurd h_116 (Int32.not_lt.mpr q))).2; rw [← hz]; exact ffp_e (by omega)⟩⟩ | exact absurd h_116 (Int32.not_lt.mpr h_19))
      · refine j_aload_n C dX7_findPair_15 rfl rfl ?_
        refine g_getI C (o0) fl_X7_189 (by rfl) dX7_findPair_16 ?_
        refine j_if_ge (tgt := 112) C dX7_findPair_19 (by decide) (fun h_19 => ?_) (fun h_19 => ?_)
        · refine j_aload_n C dX7_findPair_112 rfl rfl ?_
          refine g_getI C (o0) fl_X7_189 (by rfl) dX7_findPair_113 ?_
          refine j_if_lt (tgt := 123) C dX7_findPair_116 (by decide) (fun h_116 => ?_) (fun h_116 => ?_)
          · refine j_iconst (v := nI 0) C dX7_findPair_123 (by decide) ?_
            exact j_zret C hr (by first | rfl | exact b2i_n _ rfl) dX7_findPair_124 (by first | exact ⟨rfl, hP1, Or.inl ⟨rfl, fp_t hD (Int32.not_lt.mp h_116)⟩⟩ | exact ⟨rfl, hP1, Or.inr ⟨rfl, by have hz := (fp_f hn4 hD (fun q => absurd h_116 (Int32.not_lt.mpr q))).2; rw [← hz]; exact ffp_e (by omega)⟩⟩ | exact absurd h_116 (Int32.not_lt.mpr h_19))
          · refine j_iconst (v := nI 1) C dX7_findPair_119 (by decide) ?_
            refine j_goto (tgt := 124) C dX7_findPair_120 (by decide) ?_
            exact j_zret C hr (by first | rfl | exact b2i_n _ rfl) dX7_findPair_124 (by first | exact ⟨rfl, hP1, Or.inl ⟨rfl, fp_t hD (Int32.not_lt.mp h_116)⟩⟩ | exact ⟨rfl, hP1, Or.inr ⟨rfl, by have hz := (fp_f hn4 hD (fun q => absurd h_116 (Int32.not_lt.mpr q))).2; rw [← hz]; exact ffp_e (by omega)⟩⟩ | exact absurd h_116 (Int32.not_lt.mpr h_19))
        · refine j_iload_n C dX7_findPair_22 rfl rfl ?_
          refine j_iconst (v := nI 1) C dX7_findPair_23 (by decide) ?_
          first | refine n_iadd C dX7_findPair_24 ?_ | refine j_iadd C dX7_findPair_24 ?_
          refine j_istore_n C dX7_findPair_25 rfl (by decide) ?_
          have hz := (fp_f hn4 hD h_19).2
          have hd1 := (fp_f hn4 hD h_19).1
          clear hD
          have lq : ∀ (fuel : Nat) (p1 : Nat) (I1 : II), n + 1 < fuel + p1 → p1 ≤ n + 1 → FPr I I1 → (I1 0 22 = -1 ∧ ffo (isPr E (ordn n o)) n (n + 1 - p1) = ffo (isPr E (ordn n o)) n (n - o)) ∨ FPf n E I1 → J p l e (rmD 2) s m args below meth c (MQ below (QI G rg (fun r I1 L1 => L = L1 ∧ FPr I I1 ∧ ((r = b2i true ∧ FPf n E I1) ∨ (r = b2i false ∧ ffp (isPr E) n (n + 1) = none)))) args s 0 0 (rg_A G rg)) 5 G rg 0 0 I1 L 26 [some (.ref (gB G + 0)), some (.int (nI o)), some (.int (nI p1)), none, none] [] := by
            intro fuel
            induction fuel with
            | zero => intro p1 I1 q1 q2 hP1 hD; exfalso; omega
            | succ fuel ih_lq =>
              intro p1 I1 q1 q2 hP1 hD
              refine j_iload_n C dX7_findPair_26 rfl rfl ?_
              refine j_aload_n C dX7_findPair_27 rfl rfl ?_
              refine g_getI C (o0) fl_X7_7 (by rfl) dX7_findPair_28 ?_
              refine t_i (y := nI n) ((hP1.2 0 (by decide) (by decide)).trans hn) ?_
              first | refine n_icmp_gt (tgt := 106) C (by omega) (by omega) dX7_findPair_31 (by decide) (fun h_31 => ?_) (fun h_31 => ?_) | refine j_icmp_gt (tgt := 106) C dX7_findPair_31 (by decide) (fun h_31 => ?_) (fun h_31 => ?_)
              · first | refine n_iinc (n := 1) C dX7_findPair_106 rfl (by decide) ?_ | refine j_iinc C dX7_findPair_106 rfl rfl (by decide) ?_
                refine j_goto (tgt := 7) C dX7_findPair_109 (by decide) ?_
                refine j_rm 2 ?_
                first
                | exact ih_lp (o + 1) I1 (by omega) (by omega) hP1 (Or.inr (fp_t hD h_38))
                | (rcases hD with ⟨d1, d2⟩ | d1; (exact ih_lp (o + 1) I1 (by omega) (by omega) hP1 (Or.inl ⟨d1, by rw [← hz]; exact (ffp_f (by omega) (d2.symm.trans (ffo_e (by omega)))).symm⟩)); (exact ih_lp (o + 1) I1 (by omega) (by omega) hP1 (Or.inr d1)))
              · refine j_aload_n C dX7_findPair_34 rfl rfl ?_
                refine g_getI C (o0) fl_X7_189 (by rfl) dX7_findPair_35 ?_
                refine j_if_ge (tgt := 106) C dX7_findPair_38 (by decide) (fun h_38 => ?_) (fun h_38 => ?_)
                · first | refine n_iinc (n := 1) C dX7_findPair_106 rfl (by decide) ?_ | refine j_iinc C dX7_findPair_106 rfl rfl (by decide) ?_
                  refine j_goto (tgt := 7) C dX7_findPair_109 (by decide) ?_
                  refine j_rm 2 ?_
                  first
                  | exact ih_lp (o + 1) I1 (by omega) (by omega) hP1 (Or.inr (fp_t hD h_38))
                  | (rcases hD with ⟨d1, d2⟩ | d1; (exact ih_lp (o + 1) I1 (by omega) (by omega) hP1 (Or.inl ⟨d1, by rw [← hz]; exact (ffp_f (by omega) (d2.symm.trans (ffo_e (by omega)))).symm⟩)); (exact ih_lp (o + 1) I1 (by omega) (by omega) hP1 (Or.inr d1)))
                · refine j_aload_n C dX7_findPair_41 rfl rfl ?_
                  refine j_iload_n C dX7_findPair_42 rfl rfl ?_
                  refine g_cvI C vc_X7_171 (c_X7_inOrder l G rg _ _ n _ hms ((hP1.2 0 (by decide) (by decide)).trans hn) hn4 (by omega)) ⟨Nat.le_of_ble_eq_true rfl, Nat.le_of_ble_eq_true rfl⟩ (o0) rfl rfl (Nat.le_of_ble_eq_true rfl) ⟨Nat.zero_le _, Nat.zero_le _⟩ dX7_findPair_43 (fun r_43 I_43 L_43 p_43 => ?_)
                  obtain ⟨rfl, rfl, rfl⟩ := p_43
                  refine j_istore_n C dX7_findPair_46 rfl (by decide) ?_
                  refine j_aload_n C dX7_findPair_47 rfl rfl ?_
                  refine j_iload_n C dX7_findPair_48 rfl rfl ?_
                  refine g_cvI C vc_X7_171 (c_X7_inOrder l G rg _ _ n _ hms ((hP1.2 0 (by decide) (by decide)).trans hn) hn4 (by omega)) ⟨Nat.le_of_ble_eq_true rfl, Nat.le_of_ble_eq_true rfl⟩ (o0) rfl rfl (Nat.le_of_ble_eq_true rfl) ⟨Nat.zero_le _, Nat.zero_le _⟩ dX7_findPair_49 (fun r_49 I_49 L_49 p_49 => ?_)
                  obtain ⟨rfl, rfl, rfl⟩ := p_49
                  have hk1 := ordn_le n o
                  have hk2 := ordn_le n p1
                  refine j_istore C dX7_findPair_52 (by decide) ?_
                  refine j_aload_n C dX7_findPair_54 rfl rfl ?_
                  refine g_getR C (o0) fl_X7_33 (by rfl) dX7_findPair_55 ?_
                  refine j_iload_n C dX7_findPair_58 rfl rfl ?_
                  refine g_zald C (a7) (by omega) (by decide) dX7_findPair_59 ?_
                  refine t_i (y := b2i (eL E (ordn n o))) ((congrFun (hP1.1 7 (by decide)) _).trans (hX.1 _ hk1)) ?_
                  first | refine n_if_eq (tgt := 100) C dX7_findPair_60 (by decide) (fun h_60 => ?_) (fun h_60 => ?_) | refine j_if_eq (tgt := 100) C dX7_findPair_60 (by decide) (fun h_60 => ?_) (fun h_60 => ?_)
                  · first | refine n_iinc (n := 1) C dX7_findPair_100 rfl (by decide) ?_ | refine j_iinc C dX7_findPair_100 rfl rfl (by decide) ?_
                    refine j_goto (tgt := 26) C dX7_findPair_103 (by decide) ?_
                    try refine j_rm 4 ?_
                    try refine j_rm 3 ?_
                    have hN := fp_f hn4 hD h_38
                    first
                    | exact ih_lq (p1 + 1) _ (by omega) (by omega) hP1 (Or.inl ⟨hN.1, fq_s (by omega) (pr_1 h_60) hN.2⟩)
                    | exact ih_lq (p1 + 1) _ (by omega) (by omega) hP1 (Or.inl ⟨hN.1, fq_s (by omega) (pr_2 h_70) hN.2⟩)
                    | exact ih_lq (p1 + 1) _ (by omega) (by omega) hP1 (Or.inl ⟨hN.1, fq_s (by omega) (pr_3 h_86) hN.2⟩)
                    | exact ih_lq (p1 + 1) _ (by omega) (by omega) ((hP1.u (Or.inl rfl)).u (Or.inr rfl)) (Or.inr (FPf_n (by omega) (by omega) (pr_4 h_60 h_70 h_86) hN.2 hz))
                  · refine j_aload_n C dX7_findPair_63 rfl rfl ?_
                    refine g_getR C (o0) fl_X7_33 (by rfl) dX7_findPair_64 ?_
                    refine j_iload C dX7_findPair_67 rfl ?_
                    refine g_zald C (a7) (by omega) (by decide) dX7_findPair_69 ?_
                    refine t_i (y := b2i (eL E (ordn n p1))) ((congrFun (hP1.1 7 (by decide)) _).trans (hX.1 _ hk2)) ?_
                    first | refine n_if_eq (tgt := 100) C dX7_findPair_70 (by decide) (fun h_70 => ?_) (fun h_70 => ?_) | refine j_if_eq (tgt := 100) C dX7_findPair_70 (by decide) (fun h_70 => ?_) (fun h_70 => ?_)
                    · first | refine n_iinc (n := 1) C dX7_findPair_100 rfl (by decide) ?_ | refine j_iinc C dX7_findPair_100 rfl rfl (by decide) ?_
                      refine j_goto (tgt := 26) C dX7_findPair_103 (by decide) ?_
                      try refine j_rm 4 ?_
                      try refine j_rm 3 ?_
                      have hN := fp_f hn4 hD h_38
                      first
                      | exact ih_lq (p1 + 1) _ (by omega) (by omega) hP1 (Or.inl ⟨hN.1, fq_s (by omega) (pr_1 h_60) hN.2⟩)
                      | exact ih_lq (p1 + 1) _ (by omega) (by omega) hP1 (Or.inl ⟨hN.1, fq_s (by omega) (pr_2 h_70) hN.2⟩)
                      | exact ih_lq (p1 + 1) _ (by omega) (by omega) hP1 (Or.inl ⟨hN.1, fq_s (by omega) (pr_3 h_86) hN.2⟩)
                      | exact ih_lq (p1 + 1) _ (by omega) (by omega) ((hP1.u (Or.inl rfl)).u (Or.inr rfl)) (Or.inr (FPf_n (by omega) (by omega) (pr_4 h_60 h_70 h_86) hN.2 hz))
                    · refine j_aload_n C dX7_findPair_73 rfl rfl ?_
                      refine g_getR C (o0) fl_X7_20 (by rfl) dX7_findPair_74 ?_
                      refine j_iconst (v := nI 5) C dX7_findPair_77 (by decide) ?_
                      refine j_iload_n C dX7_findPair_78 rfl rfl ?_
                      first | refine n_imul C dX7_findPair_79 ?_ | refine j_imul C dX7_findPair_79 ?_
                      refine j_iload C dX7_findPair_80 rfl ?_
                      first | refine n_iadd C dX7_findPair_82 ?_ | refine j_iadd C dX7_findPair_82 ?_
                      refine g_lald C (a3) (by omega) (by decide) dX7_findPair_83 ?_
                      refine t_l (congrArg Prod.fst (hQ _ _ hk1 hk2)) ?_
                      refine j_lconst (v := 0) C dX7_findPair_84 (by decide) ?_
                      refine j_lc_eq (tgt := 100) C dX7_findPair_85 dX7_findPair_86 (by decide) (fun h_86 => ?_) (fun h_86 => ?_)
                      · first | refine n_iinc (n := 1) C dX7_findPair_100 rfl (by decide) ?_ | refine j_iinc C dX7_findPair_100 rfl rfl (by decide) ?_
                        refine j_goto (tgt := 26) C dX7_findPair_103 (by decide) ?_
                        try refine j_rm 4 ?_
                        try refine j_rm 3 ?_
                        have hN := fp_f hn4 hD h_38
                        first
                        | exact ih_lq (p1 + 1) _ (by omega) (by omega) hP1 (Or.inl ⟨hN.1, fq_s (by omega) (pr_1 h_60) hN.2⟩)
                        | exact ih_lq (p1 + 1) _ (by omega) (by omega) hP1 (Or.inl ⟨hN.1, fq_s (by omega) (pr_2 h_70) hN.2⟩)
                        | exact ih_lq (p1 + 1) _ (by omega) (by omega) hP1 (Or.inl ⟨hN.1, fq_s (by omega) (pr_3 h_86) hN.2⟩)
                        | exact ih_lq (p1 + 1) _ (by omega) (by omega) ((hP1.u (Or.inl rfl)).u (Or.inr rfl)) (Or.inr (FPf_n (by omega) (by omega) (pr_4 h_60 h_70 h_86) hN.2 hz))
                      · refine j_aload_n C dX7_findPair_89 rfl rfl ?_
                        refine j_iload_n C dX7_findPair_90 rfl rfl ?_
                        refine g_putI C (o0) fw_X7_189 (by rfl) rfl (fits_int _) dX7_findPair_91 ?_
                        refine j_aload_n C dX7_findPair_94 rfl rfl ?_
                        refine j_iload C dX7_findPair_95 rfl ?_
                        refine g_putI C (o0) fw_X7_192 (by rfl) rfl (fits_int _) dX7_findPair_97 ?_
                        first | refine n_iinc (n := 1) C dX7_findPair_100 rfl (by decide) ?_ | refine j_iinc C dX7_findPair_100 rfl rfl (by decide) ?_
                        refine j_goto (tgt := 26) C dX7_findPair_103 (by decide) ?_
                        try refine j_rm 4 ?_
                        try refine j_rm 3 ?_
                        have hN := fp_f hn4 hD h_38
                        first
                        | exact ih_lq (p1 + 1) _ (by omega) (by omega) hP1 (Or.inl ⟨hN.1, fq_s (by omega) (pr_1 h_60) hN.2⟩)
                        | exact ih_lq (p1 + 1) _ (by omega) (by omega) hP1 (Or.inl ⟨hN.1, fq_s (by omega) (pr_2 h_70) hN.2⟩)
                        | exact ih_lq (p1 + 1) _ (by omega) (by omega) hP1 (Or.inl ⟨hN.1, fq_s (by omega) (pr_3 h_86) hN.2⟩)
                        | exact ih_lq (p1 + 1) _ (by omega) (by omega) ((hP1.u (Or.inl rfl)).u (Or.inr rfl)) (Or.inr (FPf_n (by omega) (by omega) (pr_4 h_60 h_70 h_86) hN.2 hz))
          exact lq (n + 2) (o + 1) I1 (by omega) (by omega) hP1 (Or.inl ⟨hd1, by rw [show n + 1 - (o + 1) = n - o by omega]⟩)
  refine j_aload_n C dX7_findPair_0 rfl rfl ?_
  refine j_iconst (v := (-1)) C dX7_findPair_1 (by decide) ?_
  refine g_putI C (o0) fw_X7_189 (by rfl) rfl (fits_int _) dX7_findPair_2 ?_
  refine j_iconst (v := nI 0) C dX7_findPair_5 (by decide) ?_
  refine j_istore_n C dX7_findPair_6 rfl (by decide) ?_
  exact lp (n + 2) 0 _ (by omega) (by omega) (FPr.u ⟨fun _ _ => rfl, fun _ _ _ => rfl⟩ (Or.inl rfl)) (Or.inl ⟨by rw [up2_at]; simp, by rw [Nat.sub_zero]⟩)
