/-! ===== constructors: Elimination, SquareSums, the model ===== -/
set_option maxHeartbeats 4000000 in
set_option maxRecDepth 20000 in
theorem c_X0_init (l : Launch) (G : GT) (f : Nat → ShT) (o : Nat) (I : II) (L : LL) (hf : isEl (o + 79, f) o) (hz : ∀ q, o ≤ q → q < o + 79 → I q = (fun _ => 0) ∧ L q = (fun _ => 0)) : CtN l yX0_init cX0_init 2 4 78 208 G (RO (o + 1) f o 0 [(3, 0), (3, 0), (3, 0), (3, 0), (3, 0), (3, 0), (0, 0), (0, 0), (0, 0), (0, 0)]) I L [.ref (gB G + o)] (fun rg1 I1 L1 => rg1 = (o + 79, f) ∧ up2 I o 9 (-1) = I1 ∧ ∀ q, ¬ (o ≤ q ∧ q < o + 79) → L1 q = L q) := by
  refine ctN_of [some (.ref (gB G + o)), none] rfl (Nat.le_of_ble_eq_true rfl) (by decide) rfl ?_
  intro p e s m args below meth c C hr hin hs0
  have hI0 : I o = fun _ => 0 := (hz o (by omega) (by omega)).1
  obtain ⟨h1, h2, h3, h4, h5, h6, h7, h8, h9⟩ := id hf
  obtain ⟨_, tg29, fs29, sh29⟩ := id h3
  obtain ⟨_, fsA, sh30⟩ := id h4
  obtain ⟨_, fs31, sh31⟩ := id h5
  obtain ⟨_, n37, t37, sh37⟩ := id h7
  obtain ⟨_, n38, t38, sh38⟩ := id h8
  refine jg_aload_n C dX0_init_0 rfl rfl ?_
  refine jg_objInit C oi_X0_3 oi_i oi_c (Nat.le_of_ble_eq_true rfl) (Nat.le_of_ble_eq_true rfl) dX0_init_1 ?_
  refine jg_aload_n C dX0_init_4 rfl rfl ?_
  refine jn_new C nc_X0_9 (K := o + 1) rfl (rg1 := RO (o + 2) (va_up f o (0 + 6, (f o).2.1, (f o).2.2.1, [(3, 0), (3, 0), (3, 0), (3, 0), (3, 0), (3, 0), (0, 0), (0, 0), (0, 0), (0, 0)])) (o + 1) 3 [(3, 0), (3, 0)]) rfl (fun q hq => va_up_ne _ _ (by omega)) RO_self (hz (o + 1) (by omega) (by omega)) (Nat.le_of_ble_eq_true rfl) (Nat.le_of_ble_eq_true rfl) dX0_init_5 ?_
  refine jg_dup C dX0_init_8 rfl ?_
  refine jg_init C in_X0_11 (c_X3_init l G (va_up f o (0 + 6, (f o).2.1, (f o).2.2.1, [(3, 0), (3, 0), (3, 0), (3, 0), (3, 0), (3, 0), (0, 0), (0, 0), (0, 0), (0, 0)])) (o + 1) I L (isMx_sub h2 (fun q hq => (va_up_ne _ _ (by omega)))) (fun q a b => hz q (by omega) (by omega))) ⟨Nat.le_of_ble_eq_true rfl, Nat.le_of_ble_eq_true rfl⟩ (Nat.le_of_ble_eq_true rfl) ⟨Nat.le_of_ble_eq_true rfl, Nat.le_of_ble_eq_true rfl⟩ dX0_init_9 (fun rg0 I0 L0 p0 => ?_)
  obtain ⟨rfl, rfl, hE0⟩ := p0
  refine tg_rg (rg1 := (RO (o + 29) f o 0 [(3, 0), (3, 0), (3, 0), (3, 0), (3, 0), (3, 0), (0, 0), (0, 0), (0, 0), (0, 0)])) rfl ?_
  have hz0 : ∀ q, o + 29 ≤ q → q < o + 79 → I q = (fun _ => 0) ∧ L0 q = (fun _ => 0) := fun q a b => ⟨(hz q (by omega) (by omega)).1, by rw [hE0 q (by omega)]; exact (hz q (by omega) (by omega)).2⟩
  have hF0 : ∀ q, ¬ (o ≤ q ∧ q < o + 79) → L0 q = L q := fun q hq => by rw [hE0 q (by omega)]
  refine jg_putR (K := o + 29) (f := f) (t := o + 1) C (by omega) fr_X0_12 (Nat.le_of_ble_eq_true rfl) hin dX0_init_12 ?_
  refine tg_rg (rg1 := (RO (o + 29) f o 0 [(2, o + 1), (3, 0), (3, 0), (3, 0), (3, 0), (3, 0), (0, 0), (0, 0), (0, 0), (0, 0)])) rfl ?_
  refine jg_aload_n C dX0_init_15 rfl rfl ?_
  refine jg_iconst (v := nI 5) C dX0_init_16 (by decide) ?_
  refine jn_newaZ C (K := o + 29) rfl (rg1 := (RO (o + 30) f o 0 [(2, o + 1), (3, 0), (3, 0), (3, 0), (3, 0), (3, 0), (0, 0), (0, 0), (0, 0), (0, 0)])) rfl (fun _ _ => rfl) ((RO_ne (by omega)).trans sh29) (hz0 (o + 29) (by omega) (by omega)) (by decide) (Nat.le_of_ble_eq_true rfl) (Nat.le_of_ble_eq_true rfl) dX0_init_17 ?_
  refine jg_putR (K := o + 30) (f := f) (t := o + 29) C (by omega) fr_X0_18 (Nat.le_of_ble_eq_true rfl) hin dX0_init_19 ?_
  refine tg_rg (rg1 := (RO (o + 30) f o 0 [(2, o + 1), (2, o + 29), (3, 0), (3, 0), (3, 0), (3, 0), (0, 0), (0, 0), (0, 0), (0, 0)])) rfl ?_
  refine jg_aload_n C dX0_init_22 rfl rfl ?_
  refine jg_iconst (v := nI 5) C dX0_init_23 (by decide) ?_
  obtain ⟨fA, hfA⟩ : ∃ g, g = va_up f (o + 30) (4, 5, tgP 5 0 (fun j => o + 39 + 8 * j), fsA) := ⟨_, rfl⟩
  have hA : ∀ q, q ≠ o + 30 → fA q = f q := fun q hq => by rw [hfA, va_up_ne _ _ hq]
  refine jn_anew4 C cl_X0_22 (K := o + 30) rfl (rg1 := (RO (o + 31) fA o 0 [(2, o + 1), (2, o + 29), (3, 0), (3, 0), (3, 0), (3, 0), (0, 0), (0, 0), (0, 0), (0, 0)])) rfl (fun q hq => ?_) ((RO_ne (by omega)).trans (by rw [hfA, va_up_self])) tgP_0 (by decide) (Nat.le_of_ble_eq_true rfl) (Nat.le_of_ble_eq_true rfl) dX0_init_24 ?_
  · show va_up fA o _ q = va_up f o _ q
    rw [hA o (by omega)]
    by_cases e : q = o
    · rw [e, va_up_self, va_up_self]
    · rw [va_up_ne _ _ e, va_up_ne _ _ e, hA q (by omega)]
  refine jg_putR (K := o + 31) (f := fA) (t := o + 30) C (by omega) fr_X0_24 (Nat.le_of_ble_eq_true rfl) hin dX0_init_27 ?_
  refine tg_rg (rg1 := (RO (o + 31) fA o 0 [(2, o + 1), (2, o + 29), (2, o + 30), (3, 0), (3, 0), (3, 0), (0, 0), (0, 0), (0, 0), (0, 0)])) rfl ?_
  refine jg_aload_n C dX0_init_30 rfl rfl ?_
  refine jg_iconst (v := nI 5) C dX0_init_31 (by decide) ?_
  refine jg_csM C sc_X0_28 (c_row l G (va_up fA o (0 + 6, (fA o).2.1, (fA o).2.2.1, [(2, o + 1), (2, o + 29), (2, o + 30), (3, 0), (3, 0), (3, 0), (0, 0), (0, 0), (0, 0), (0, 0)])) (o + 31) 5 _ _ I L0 (by decide) (by omega) ((va_up_ne _ _ (by omega)).trans ((hA (o + 31) (by omega)).trans sh31)) (fun j hj => by show o + 32 + j = o + 31 + 1 + j; omega) (fun j hj => by obtain ⟨_, a, b, h⟩ := h6 j (by omega); exact ⟨a, b, (va_up_ne _ _ (by omega)).trans ((hA _ (by omega)).trans (by rw [show o + 31 + 1 + j = o + 32 + j by omega]; exact h))⟩) (fun q a b => hz0 q (by omega) (by omega))) ⟨Nat.le_of_ble_eq_true rfl, Nat.le_of_ble_eq_true rfl⟩ rfl rfl (Nat.le_of_ble_eq_true rfl) ⟨Nat.le_of_ble_eq_true rfl, Nat.le_of_ble_eq_true rfl⟩ dX0_init_32 (fun v1 rg1 I1 L1 p1 => ?_)
  obtain ⟨rfl, rfl, hI1, hE1⟩ := p1
  subst hI1
  have hz1 : ∀ q, o + 37 ≤ q → q < o + 79 → I q = (fun _ => 0) ∧ L1 q = (fun _ => 0) := fun q a b => ⟨(hz0 q (by omega) (by omega)).1, by rw [hE1 q (by omega)]; exact (hz0 q (by omega) (by omega)).2⟩
  have hF1 : ∀ q, ¬ (o ≤ q ∧ q < o + 79) → L1 q = L q := fun q hq => (hE1 q (by omega)).trans (hF0 q hq)
  refine tg_rg (rg1 := (RO (o + 37) fA o 0 [(2, o + 1), (2, o + 29), (2, o + 30), (3, 0), (3, 0), (3, 0), (0, 0), (0, 0), (0, 0), (0, 0)])) rfl ?_
  refine jg_putR (K := o + 37) (f := fA) (t := o + 31) C (by omega) fr_X0_32 (Nat.le_of_ble_eq_true rfl) hin dX0_init_35 ?_
  refine tg_rg (rg1 := (RO (o + 37) fA o 0 [(2, o + 1), (2, o + 29), (2, o + 30), (2, o + 31), (3, 0), (3, 0), (0, 0), (0, 0), (0, 0), (0, 0)])) rfl ?_
  refine jg_aload_n C dX0_init_38 rfl rfl ?_
  refine jn_new C nc_X0_36 (K := o + 37) rfl (rg1 := (RO (o + 38) fA o 0 [(2, o + 1), (2, o + 29), (2, o + 30), (2, o + 31), (3, 0), (3, 0), (0, 0), (0, 0), (0, 0), (0, 0)])) rfl (fun _ _ => rfl) ((RO_ne (by omega)).trans ((hA (o + 37) (by omega)).trans sh37)) (hz1 (o + 37) (by omega) (by omega)) (Nat.le_of_ble_eq_true rfl) (Nat.le_of_ble_eq_true rfl) dX0_init_39 ?_
  refine jg_dup C dX0_init_42 rfl ?_
  refine jg_init C in_X0_38 (c_X2_init l G _ I L1 (o + 37) ⟨by show o + 37 < o + 38; omega, _, _, (RO_ne (by omega)).trans ((hA (o + 37) (by omega)).trans sh37)⟩) ⟨Nat.le_of_ble_eq_true rfl, Nat.le_of_ble_eq_true rfl⟩ (Nat.le_of_ble_eq_true rfl) ⟨Nat.le_of_ble_eq_true rfl, Nat.le_of_ble_eq_true rfl⟩ dX0_init_43 (fun rg2 I2 L2 p2 => ?_)
  obtain ⟨rfl, rfl, hE2⟩ := p2
  have hz2 : ∀ q, o + 38 ≤ q → q < o + 79 → I q = (fun _ => 0) ∧ L2 q = (fun _ => 0) := fun q a b => ⟨(hz1 q (by omega) (by omega)).1, by rw [← hE2, setF_ne (by omega)]; exact (hz1 q (by omega) (by omega)).2⟩
  have hF2 : ∀ q, ¬ (o ≤ q ∧ q < o + 79) → L2 q = L q := fun q hq => by rw [← hE2, setF_ne (by omega)]; exact hF1 q hq
  refine jg_putR (K := o + 38) (f := fA) (t := o + 37) C (by omega) fr_X0_39 (Nat.le_of_ble_eq_true rfl) hin dX0_init_46 ?_
  refine tg_rg (rg1 := (RO (o + 38) fA o 0 [(2, o + 1), (2, o + 29), (2, o + 30), (2, o + 31), (2, o + 37), (3, 0), (0, 0), (0, 0), (0, 0), (0, 0)])) rfl ?_
  refine jg_aload_n C dX0_init_49 rfl rfl ?_
  refine jn_new C nc_X0_36 (K := o + 38) rfl (rg1 := (RO (o + 39) fA o 0 [(2, o + 1), (2, o + 29), (2, o + 30), (2, o + 31), (2, o + 37), (3, 0), (0, 0), (0, 0), (0, 0), (0, 0)])) rfl (fun _ _ => rfl) ((RO_ne (by omega)).trans ((hA (o + 38) (by omega)).trans sh38)) (hz2 (o + 38) (by omega) (by omega)) (Nat.le_of_ble_eq_true rfl) (Nat.le_of_ble_eq_true rfl) dX0_init_50 ?_
  refine jg_dup C dX0_init_53 rfl ?_
  refine jg_init C in_X0_38 (c_X2_init l G _ I L2 (o + 38) ⟨by show o + 38 < o + 39; omega, _, _, (RO_ne (by omega)).trans ((hA (o + 38) (by omega)).trans sh38)⟩) ⟨Nat.le_of_ble_eq_true rfl, Nat.le_of_ble_eq_true rfl⟩ (Nat.le_of_ble_eq_true rfl) ⟨Nat.le_of_ble_eq_true rfl, Nat.le_of_ble_eq_true rfl⟩ dX0_init_54 (fun rg3 I3 L3 p3 => ?_)
  obtain ⟨rfl, rfl, hE3⟩ := p3
  have hz3 : ∀ q, o + 39 ≤ q → q < o + 79 → I q = (fun _ => 0) ∧ L3 q = (fun _ => 0) := fun q a b => ⟨(hz2 q (by omega) (by omega)).1, by rw [← hE3, setF_ne (by omega)]; exact (hz2 q (by omega) (by omega)).2⟩
  have hF3 : ∀ q, ¬ (o ≤ q ∧ q < o + 79) → L3 q = L q := fun q hq => by rw [← hE3, setF_ne (by omega)]; exact hF2 q hq
  refine jg_putR (K := o + 39) (f := fA) (t := o + 38) C (by omega) fr_X0_43 (Nat.le_of_ble_eq_true rfl) hin dX0_init_57 ?_
  refine tg_rg (rg1 := (RO (o + 39) fA o 0 [(2, o + 1), (2, o + 29), (2, o + 30), (2, o + 31), (2, o + 37), (2, o + 38), (0, 0), (0, 0), (0, 0), (0, 0)])) rfl ?_
  refine jg_aload_n C dX0_init_60 rfl rfl ?_
  refine jg_iconst (v := nI 0) C dX0_init_61 (by decide) ?_
  refine jg_putI C (RO_o (by omega)) fw_X0_46 rfl rfl (fits_int _) dX0_init_62 ?_
  refine tg_IL (up2_same _ (show I o 6 = 0 from congrFun hI0 _)) rfl ?_
  refine jg_aload_n C dX0_init_65 rfl rfl ?_
  refine jg_iconst (v := nI 0) C dX0_init_66 (by decide) ?_
  refine jg_putI C (RO_o (by omega)) fw_X0_50 rfl rfl (fits_int _) dX0_init_67 ?_
  refine tg_IL (up2_same _ (show I o 7 = 0 from congrFun hI0 _)) rfl ?_
  refine jg_aload_n C dX0_init_70 rfl rfl ?_
  refine jg_iconst (v := nI 0) C dX0_init_71 (by decide) ?_
  refine jg_putI C (RO_o (by omega)) fw_X0_53 rfl rfl (fits_int _) dX0_init_72 ?_
  refine tg_IL (up2_same _ (show I o 8 = 0 from congrFun hI0 _)) rfl ?_
  refine jg_aload_n C dX0_init_75 rfl rfl ?_
  refine jg_iconst (v := (-1)) C dX0_init_76 (by decide) ?_
  refine jg_putI C (RO_o (by omega)) fw_X0_56 rfl rfl (fits_int _) dX0_init_77 ?_
  have lp : ∀ (fuel i : Nat) (L1 : LL), 5 < fuel + i → i ≤ 5 → (∀ q, ¬ (o ≤ q ∧ q < o + 79) → L1 q = L q) → (∀ q, o + 39 + 8 * i ≤ q → q < o + 79 → (up2 I o 9 (-1)) q = (fun _ => 0) ∧ L1 q = (fun _ => 0)) → JG p l e (rmN 4 78 208) s m args below meth c (MQ below (QN G (o + 1) 78 (fun rg1 I1 L1 => rg1 = (o + 79, f) ∧ up2 I o 9 (-1) = I1 ∧ ∀ q, ¬ (o ≤ q ∧ q < o + 79) → L1 q = L q)) args s 78 208 (GB G)) 2 G (o + 39 + 8 * i, va_up f (o + 30) (4, 5, tgP 5 i (fun j => o + 39 + 8 * j), fsA)) (38 + 8 * i) (108 + 20 * i) (up2 I o 9 (-1)) L1 82 [some (.ref (gB G + o)), some (.int (nI i))] [] := by
    intro fuel
    induction fuel with
    | zero => intro i L1 q1 q2; exfalso; omega
    | succ fuel ih =>
      intro i L1 q1 q2 hFi hzi
      refine jg_iload_n C dX0_init_82 rfl rfl ?_
      refine jg_iconst (v := nI 5) C dX0_init_83 (by decide) ?_
      refine jg_icmp_ge (tgt := 106) C dX0_init_84 (by decide) (fun h => ?_) (fun h => ?_)
      · have hi : i = 5 := by rw [Int32.le_iff_toInt_le, nI_toInt (by omega), nI_toInt (by omega)] at h; omega
        subst hi
        refine tg_rg (rg1 := (o + 79, f)) (by rw [tgP_n, va_up_id sh30]) ?_
        refine tg_k (kc1 := 78) (ks1 := 208) rfl rfl ?_
        exact jg_vret C hr hs0 dX0_init_106 ⟨rfl, rfl, hFi⟩
      · have hi : i < 5 := by rw [Int32.le_iff_toInt_le, nI_toInt (by omega), nI_toInt (by omega)] at h; omega
        refine jg_aload_n C dX0_init_87 rfl rfl ?_
        refine jg_getR C (Ob_sub h1 (by omega) (va_up_ne _ _ (by omega))) fl_X0_24 rfl dX0_init_88 ?_
        refine jg_iload_n C dX0_init_91 rfl rfl ?_
        refine jn_new C nc_X0_22 (K := o + 39 + 8 * i) rfl (rg1 := RO (o + 39 + 8 * i + 1) (va_up f (o + 30) (4, 5, tgP 5 i (fun j => o + 39 + 8 * j), fsA)) (o + 39 + 8 * i) 5 [(3, 0), (3, 0), (0, 0)]) rfl (fun q hq => va_up_ne _ _ (by omega)) (va_up_self _ _ _) (hzi _ (by omega) (by omega)) (by show 38 + 8 * i + 1 ≤ 78; omega) (by show 108 + 20 * i + 3 ≤ 208; omega) dX0_init_92 ?_
        refine jg_dup C dX0_init_95 rfl ?_
        refine jg_init C in_X0_59 (c_X5_init l G (va_up f (o + 30) (4, 5, tgP 5 i (fun j => o + 39 + 8 * j), fsA)) (o + 39 + 8 * i) (up2 I o 9 (-1)) L1 (isSq_sub (h9 i hi) (fun q hq => va_up_ne _ _ (by omega))) (fun q a b => hzi q (by omega) (by omega))) ⟨Nat.le_of_ble_eq_true rfl, Nat.le_of_ble_eq_true rfl⟩ (Nat.le_of_ble_eq_true rfl) ⟨by show 38 + 8 * i + 1 + 7 ≤ 78; omega, by show 108 + 20 * i + 3 + 17 ≤ 208; omega⟩ dX0_init_96 (fun rg2 I2 L2 p2 => ?_)
        obtain ⟨rfl, rfl, hE⟩ := p2
        refine jg_ast4 (K := o + 39 + 8 * i + 8) (a := o + 30) (f := f) (tg := tgP 5 i (fun j => o + 39 + 8 * j)) (tg1 := tgP 5 (i + 1) (fun j => o + 39 + 8 * j)) C (by omega) hi (by decide) (Ob_sub (h9 i hi).1 (by omega) (va_up_ne _ _ (by omega))) (by omega) tgP_i tgP_s dX0_init_99 ?_
        refine jg_iinc C dX0_init_100 rfl (v := nI (i + 1)) (by rw [show Int32.ofInt 1 = nI 1 from rfl, nI_add]) (by decide) ?_
        refine jg_goto (tgt := 82) C dX0_init_103 (by decide) ?_
        refine tg_k (kc1 := 38 + 8 * (i + 1)) (ks1 := 108 + 20 * (i + 1)) (by omega) (by omega) ?_
        refine tg_rg (rg1 := (o + 39 + 8 * (i + 1), va_up f (o + 30) (4, 5, tgP 5 (i + 1) (fun j => o + 39 + 8 * j), fsA))) (by rw [show o + 39 + 8 * i + 8 = o + 39 + 8 * (i + 1) by omega]) ?_
        exact ih (i + 1) L2 (by omega) (by omega) (fun q hq => by rw [hE q (by omega)]; exact hFi q hq) (fun q a b => ⟨(hzi q (by omega) (by omega)).1, by rw [hE q (by omega)]; exact (hzi q (by omega) (by omega)).2⟩)
  refine tg_rg (RO_end (Ob_sub h1 (by omega) (hA o (by omega)))) ?_
  refine jg_iconst (v := nI 0) C dX0_init_80 (by decide) ?_
  refine jg_istore_n C dX0_init_81 rfl (by decide) ?_
  subst hfA
  refine tg_k (kc1 := 38 + 8 * 0) (ks1 := 108 + 20 * 0) rfl rfl ?_
  exact lp 6 0 L3 (by omega) (by omega) hF3 (fun q a b => ⟨by rw [up2_ne _ (by omega)]; exact (hz3 q (by omega) (by omega)).1, (hz3 q (by omega) (by omega)).2⟩)
set_option maxHeartbeats 4000000 in
set_option maxRecDepth 20000 in
theorem c_X6_init (l : Launch) (G : GT) (f : Nat → ShT) (I : II) (L : LL) (hf : isSS (226, f)) (hz : ∀ q, 0 ≤ q → q < 226 → I q = (fun _ => 0) ∧ L q = (fun _ => 0)) : CtN l yX6_init cX6_init 2 5 225 880 G (RO (1) f 0 6 [(3, 0), (3, 0), (3, 0), (3, 0), (3, 0), (3, 0), (3, 0), (3, 0), (3, 0), (3, 0), (0, 0), (0, 0), (0, 0)]) I L [.ref (gB G + 0)] (fun rg1 I1 L1 => rg1 = (226, f) ∧ (up2 (up2 (up2 I 32 9 (-1)) 111 9 (-1)) 0 10 (nI 2)) = I1 ∧ fr L1 192 = (1, 1)) := by
  refine ctN_of [some (.ref (gB G + 0)), none] rfl (Nat.le_of_ble_eq_true rfl) (by decide) rfl ?_
  intro p e s m args below meth c C hr hin hs0
  have hI0 : I 0 = fun _ => 0 := (hz 0 (by omega) (by omega)).1
  obtain ⟨h1, h2, h3, h4, h5, h6, h7, h8, h9, h10, h11, h12⟩ := id hf
  obtain ⟨_, fsA, sh1⟩ := id h2
  obtain ⟨_, tg2, fs2, sh2⟩ := id h3
  obtain ⟨_, tg3, fs3, sh3⟩ := id h4
  obtain ⟨_, n199, t199, sh199⟩ := id h9
  obtain ⟨_, n200, t200, sh200⟩ := id h10
  obtain ⟨_, n201, t201, sh201⟩ := id h11
  refine jg_aload_n C dX6_init_0 rfl rfl ?_
  refine jg_objInit C oi_X6_3 oi_i oi_c (Nat.le_of_ble_eq_true rfl) (Nat.le_of_ble_eq_true rfl) dX6_init_1 ?_
  refine jg_aload_n C dX6_init_4 rfl rfl ?_
  refine jg_bipush (v := nI 12) C dX6_init_5 (by decide) ?_
  obtain ⟨fA, hfA⟩ : ∃ g, g = va_up f (1) (5, 12, tgP 12 0 (fun j => 202 + 2 * j), fsA) := ⟨_, rfl⟩
  have hA : ∀ q, q ≠ 1 → fA q = f q := fun q hq => by rw [hfA, va_up_ne _ _ hq]
  refine jn_anew5 C cl_X6_9 (K := 1) rfl (rg1 := (RO (2) fA 0 6 [(3, 0), (3, 0), (3, 0), (3, 0), (3, 0), (3, 0), (3, 0), (3, 0), (3, 0), (3, 0), (0, 0), (0, 0), (0, 0)])) rfl (fun q hq => ?_) ((RO_ne (by omega)).trans (by rw [hfA, va_up_self])) tgP_0 (by decide) (Nat.le_of_ble_eq_true rfl) (Nat.le_of_ble_eq_true rfl) dX6_init_7 ?_
  · show va_up fA 0 _ q = va_up f 0 _ q
    rw [hA 0 (by omega)]
    by_cases e : q = 0
    · rw [e, va_up_self, va_up_self]
    · rw [va_up_ne _ _ e, va_up_ne _ _ e, hA q (by omega)]
  refine jg_putR (K := 2) (f := fA) (t := 1) C (by omega) fr_X6_11 (Nat.le_of_ble_eq_true rfl) hin dX6_init_10 ?_
  refine tg_rg (rg1 := (RO (2) fA 0 6 [(2, 1), (3, 0), (3, 0), (3, 0), (3, 0), (3, 0), (3, 0), (3, 0), (3, 0), (3, 0), (0, 0), (0, 0), (0, 0)])) rfl ?_
  refine jg_aload_n C dX6_init_13 rfl rfl ?_
  refine jg_bipush (v := nI 7) C dX6_init_14 (by decide) ?_
  refine jn_newaI C (K := 2) rfl (rg1 := (RO (3) fA 0 6 [(2, 1), (3, 0), (3, 0), (3, 0), (3, 0), (3, 0), (3, 0), (3, 0), (3, 0), (3, 0), (0, 0), (0, 0), (0, 0)])) rfl (fun _ _ => rfl) ((RO_ne (by omega)).trans ((hA (2) (by omega)).trans sh2)) (hz (2) (by omega) (by omega)) (by decide) (Nat.le_of_ble_eq_true rfl) (Nat.le_of_ble_eq_true rfl) dX6_init_16 ?_
  refine jg_putR (K := 3) (f := fA) (t := 2) C (by omega) fr_X6_15 (Nat.le_of_ble_eq_true rfl) hin dX6_init_18 ?_
  refine tg_rg (rg1 := (RO (3) fA 0 6 [(2, 1), (2, 2), (3, 0), (3, 0), (3, 0), (3, 0), (3, 0), (3, 0), (3, 0), (3, 0), (0, 0), (0, 0), (0, 0)])) rfl ?_
  refine jg_aload_n C dX6_init_21 rfl rfl ?_
  refine jg_iconst (v := nI 5) C dX6_init_22 (by decide) ?_
  refine jn_newaJ C (K := 3) rfl (rg1 := (RO (4) fA 0 6 [(2, 1), (2, 2), (3, 0), (3, 0), (3, 0), (3, 0), (3, 0), (3, 0), (3, 0), (3, 0), (0, 0), (0, 0), (0, 0)])) rfl (fun _ _ => rfl) ((RO_ne (by omega)).trans ((hA (3) (by omega)).trans sh3)) (hz (3) (by omega) (by omega)) (by decide) (Nat.le_of_ble_eq_true rfl) (Nat.le_of_ble_eq_true rfl) dX6_init_23 ?_
  refine jg_putR (K := 4) (f := fA) (t := 3) C (by omega) fr_X6_19 (Nat.le_of_ble_eq_true rfl) hin dX6_init_25 ?_
  refine tg_rg (rg1 := (RO (4) fA 0 6 [(2, 1), (2, 2), (2, 3), (3, 0), (3, 0), (3, 0), (3, 0), (3, 0), (3, 0), (3, 0), (0, 0), (0, 0), (0, 0)])) rfl ?_
  refine jg_aload_n C dX6_init_28 rfl rfl ?_
  refine jn_new C nc_X6_23 (K := 4) rfl (rg1 := RO (5) (va_up fA 0 (6 + 6, (fA 0).2.1, (fA 0).2.2.1, [(2, 1), (2, 2), (2, 3), (3, 0), (3, 0), (3, 0), (3, 0), (3, 0), (3, 0), (3, 0), (0, 0), (0, 0), (0, 0)])) (4) 3 [(3, 0), (3, 0)]) rfl (fun q hq => va_up_ne _ _ (by omega)) RO_self (hz (4) (by omega) (by omega)) (Nat.le_of_ble_eq_true rfl) (Nat.le_of_ble_eq_true rfl) dX6_init_29 ?_
  refine jg_dup C dX6_init_32 rfl ?_
  refine jg_init C in_X6_25 (c_X3_init l G (va_up fA 0 (6 + 6, (fA 0).2.1, (fA 0).2.2.1, [(2, 1), (2, 2), (2, 3), (3, 0), (3, 0), (3, 0), (3, 0), (3, 0), (3, 0), (3, 0), (0, 0), (0, 0), (0, 0)])) (4) I L (isMx_sub h5 (fun q hq => (va_up_ne _ _ (by omega)).trans (hA q (by omega)))) (fun q a b => hz q (by omega) (by omega))) ⟨Nat.le_of_ble_eq_true rfl, Nat.le_of_ble_eq_true rfl⟩ (Nat.le_of_ble_eq_true rfl) ⟨Nat.le_of_ble_eq_true rfl, Nat.le_of_ble_eq_true rfl⟩ dX6_init_33 (fun rg0 I0 L0 p0 => ?_)
  obtain ⟨rfl, rfl, hE0⟩ := p0
  refine tg_rg (rg1 := (RO (32) fA 0 6 [(2, 1), (2, 2), (2, 3), (3, 0), (3, 0), (3, 0), (3, 0), (3, 0), (3, 0), (3, 0), (0, 0), (0, 0), (0, 0)])) rfl ?_
  have hz0 : ∀ q, 32 ≤ q → q < 226 → I q = (fun _ => 0) ∧ L0 q = (fun _ => 0) := fun q a b => ⟨(hz q (by omega) (by omega)).1, by rw [hE0 q (by omega)]; exact (hz q (by omega) (by omega)).2⟩
  have hF0 : ∀ q, ¬ (0 ≤ q ∧ q < 226) → L0 q = L q := fun q hq => by rw [hE0 q (by omega)]
  refine jg_putR (K := 32) (f := fA) (t := 4) C (by omega) fr_X6_26 (Nat.le_of_ble_eq_true rfl) hin dX6_init_36 ?_
  refine tg_rg (rg1 := (RO (32) fA 0 6 [(2, 1), (2, 2), (2, 3), (2, 4), (3, 0), (3, 0), (3, 0), (3, 0), (3, 0), (3, 0), (0, 0), (0, 0), (0, 0)])) rfl ?_
  refine jg_aload_n C dX6_init_39 rfl rfl ?_
  refine jn_new C nc_X6_30 (K := 32) rfl (rg1 := RO (33) (va_up fA 0 (6 + 6, (fA 0).2.1, (fA 0).2.2.1, [(2, 1), (2, 2), (2, 3), (2, 4), (3, 0), (3, 0), (3, 0), (3, 0), (3, 0), (3, 0), (0, 0), (0, 0), (0, 0)])) (32) 0 [(3, 0), (3, 0), (3, 0), (3, 0), (3, 0), (3, 0), (0, 0), (0, 0), (0, 0), (0, 0)]) rfl (fun q hq => va_up_ne _ _ (by omega)) RO_self (hz0 (32) (by omega) (by omega)) (Nat.le_of_ble_eq_true rfl) (Nat.le_of_ble_eq_true rfl) dX6_init_40 ?_
  refine jg_dup C dX6_init_43 rfl ?_
  refine jg_init C in_X6_32 (c_X0_init l G (va_up fA 0 (6 + 6, (fA 0).2.1, (fA 0).2.2.1, [(2, 1), (2, 2), (2, 3), (2, 4), (3, 0), (3, 0), (3, 0), (3, 0), (3, 0), (3, 0), (0, 0), (0, 0), (0, 0)])) (32) I L0 (isEl_sub h6 (fun q hq => (va_up_ne _ _ (by omega)).trans (hA q (by omega)))) (fun q a b => hz0 q (by omega) (by omega))) ⟨Nat.le_of_ble_eq_true rfl, Nat.le_of_ble_eq_true rfl⟩ (Nat.le_of_ble_eq_true rfl) ⟨Nat.le_of_ble_eq_true rfl, Nat.le_of_ble_eq_true rfl⟩ dX6_init_44 (fun rg1 I1 L1 p1 => ?_)
  obtain ⟨rfl, rfl, hE1⟩ := p1
  refine tg_rg (rg1 := (RO (111) fA 0 6 [(2, 1), (2, 2), (2, 3), (2, 4), (3, 0), (3, 0), (3, 0), (3, 0), (3, 0), (3, 0), (0, 0), (0, 0), (0, 0)])) rfl ?_
  have hz1 : ∀ q, 111 ≤ q → q < 226 → (up2 I (32) 9 (-1)) q = (fun _ => 0) ∧ L1 q = (fun _ => 0) := fun q a b => ⟨by rw [up2_ne _ (by omega)]; exact (hz0 q (by omega) (by omega)).1, by rw [hE1 q (by omega)]; exact (hz0 q (by omega) (by omega)).2⟩
  have hF1 : ∀ q, ¬ (0 ≤ q ∧ q < 226) → L1 q = L q := fun q hq => by rw [hE1 q (by omega)]; exact hF0 q hq
  refine jg_putR (K := 111) (f := fA) (t := 32) C (by omega) fr_X6_33 (Nat.le_of_ble_eq_true rfl) hin dX6_init_47 ?_
  refine tg_rg (rg1 := (RO (111) fA 0 6 [(2, 1), (2, 2), (2, 3), (2, 4), (2, 32), (3, 0), (3, 0), (3, 0), (3, 0), (3, 0), (0, 0), (0, 0), (0, 0)])) rfl ?_
  refine jg_aload_n C dX6_init_50 rfl rfl ?_
  refine jn_new C nc_X6_30 (K := 111) rfl (rg1 := RO (112) (va_up fA 0 (6 + 6, (fA 0).2.1, (fA 0).2.2.1, [(2, 1), (2, 2), (2, 3), (2, 4), (2, 32), (3, 0), (3, 0), (3, 0), (3, 0), (3, 0), (0, 0), (0, 0), (0, 0)])) (111) 0 [(3, 0), (3, 0), (3, 0), (3, 0), (3, 0), (3, 0), (0, 0), (0, 0), (0, 0), (0, 0)]) rfl (fun q hq => va_up_ne _ _ (by omega)) RO_self (hz1 (111) (by omega) (by omega)) (Nat.le_of_ble_eq_true rfl) (Nat.le_of_ble_eq_true rfl) dX6_init_51 ?_
  refine jg_dup C dX6_init_54 rfl ?_
  refine jg_init C in_X6_32 (c_X0_init l G (va_up fA 0 (6 + 6, (fA 0).2.1, (fA 0).2.2.1, [(2, 1), (2, 2), (2, 3), (2, 4), (2, 32), (3, 0), (3, 0), (3, 0), (3, 0), (3, 0), (0, 0), (0, 0), (0, 0)])) (111) (up2 I (32) 9 (-1)) L1 (isEl_sub h7 (fun q hq => (va_up_ne _ _ (by omega)).trans (hA q (by omega)))) (fun q a b => hz1 q (by omega) (by omega))) ⟨Nat.le_of_ble_eq_true rfl, Nat.le_of_ble_eq_true rfl⟩ (Nat.le_of_ble_eq_true rfl) ⟨Nat.le_of_ble_eq_true rfl, Nat.le_of_ble_eq_true rfl⟩ dX6_init_55 (fun rg2 I2 L2 p2 => ?_)
  obtain ⟨rfl, rfl, hE2⟩ := p2
  refine tg_rg (rg1 := (RO (190) fA 0 6 [(2, 1), (2, 2), (2, 3), (2, 4), (2, 32), (3, 0), (3, 0), (3, 0), (3, 0), (3, 0), (0, 0), (0, 0), (0, 0)])) rfl ?_
  have hz2 : ∀ q, 190 ≤ q → q < 226 → (up2 (up2 I (32) 9 (-1)) (111) 9 (-1)) q = (fun _ => 0) ∧ L2 q = (fun _ => 0) := fun q a b => ⟨by rw [up2_ne _ (by omega)]; exact (hz1 q (by omega) (by omega)).1, by rw [hE2 q (by omega)]; exact (hz1 q (by omega) (by omega)).2⟩
  have hF2 : ∀ q, ¬ (0 ≤ q ∧ q < 226) → L2 q = L q := fun q hq => by rw [hE2 q (by omega)]; exact hF1 q hq
  refine jg_putR (K := 190) (f := fA) (t := 111) C (by omega) fr_X6_37 (Nat.le_of_ble_eq_true rfl) hin dX6_init_58 ?_
  refine tg_rg (rg1 := (RO (190) fA 0 6 [(2, 1), (2, 2), (2, 3), (2, 4), (2, 32), (2, 111), (3, 0), (3, 0), (3, 0), (3, 0), (0, 0), (0, 0), (0, 0)])) rfl ?_
  refine jg_aload_n C dX6_init_61 rfl rfl ?_
  refine jn_new C nc_X6_40 (K := 190) rfl (rg1 := RO (191) (va_up fA 0 (6 + 6, (fA 0).2.1, (fA 0).2.2.1, [(2, 1), (2, 2), (2, 3), (2, 4), (2, 32), (2, 111), (3, 0), (3, 0), (3, 0), (3, 0), (0, 0), (0, 0), (0, 0)])) (190) 4 [(3, 0), (3, 0), (3, 0), (0, 0)]) rfl (fun q hq => va_up_ne _ _ (by omega)) RO_self (hz2 (190) (by omega) (by omega)) (Nat.le_of_ble_eq_true rfl) (Nat.le_of_ble_eq_true rfl) dX6_init_62 ?_
  refine jg_dup C dX6_init_65 rfl ?_
  refine jg_init C in_X6_42 (c_X4_init l G (va_up fA 0 (6 + 6, (fA 0).2.1, (fA 0).2.2.1, [(2, 1), (2, 2), (2, 3), (2, 4), (2, 32), (2, 111), (3, 0), (3, 0), (3, 0), (3, 0), (0, 0), (0, 0), (0, 0)])) (190) (up2 (up2 I (32) 9 (-1)) (111) 9 (-1)) L2 (isPt_sub h8 (fun q hq => (va_up_ne _ _ (by omega)).trans (hA q (by omega)))) (fun q a b => hz2 q (by omega) (by omega))) ⟨Nat.le_of_ble_eq_true rfl, Nat.le_of_ble_eq_true rfl⟩ (Nat.le_of_ble_eq_true rfl) ⟨Nat.le_of_ble_eq_true rfl, Nat.le_of_ble_eq_true rfl⟩ dX6_init_66 (fun rg3 I3 L3 p3 => ?_)
  obtain ⟨rfl, rfl, hE3, hX3⟩ := p3
  refine tg_rg (rg1 := (RO (199) fA 0 6 [(2, 1), (2, 2), (2, 3), (2, 4), (2, 32), (2, 111), (3, 0), (3, 0), (3, 0), (3, 0), (0, 0), (0, 0), (0, 0)])) rfl ?_
  have hz3 : ∀ q, 199 ≤ q → q < 226 → (up2 (up2 I (32) 9 (-1)) (111) 9 (-1)) q = (fun _ => 0) ∧ L3 q = (fun _ => 0) := fun q a b => ⟨(hz2 q (by omega) (by omega)).1, by rw [hE3 q (by omega)]; exact (hz2 q (by omega) (by omega)).2⟩
  have hF3 : ∀ q, ¬ (0 ≤ q ∧ q < 226) → L3 q = L q := fun q hq => by rw [hE3 q (by omega)]; exact hF2 q hq
  refine jg_putR (K := 199) (f := fA) (t := 190) C (by omega) fr_X6_43 (Nat.le_of_ble_eq_true rfl) hin dX6_init_69 ?_
  refine tg_rg (rg1 := (RO (199) fA 0 6 [(2, 1), (2, 2), (2, 3), (2, 4), (2, 32), (2, 111), (2, 190), (3, 0), (3, 0), (3, 0), (0, 0), (0, 0), (0, 0)])) rfl ?_
  refine jg_aload_n C dX6_init_72 rfl rfl ?_
  refine jn_new C nc_X6_47 (K := 199) rfl (rg1 := (RO (200) fA 0 6 [(2, 1), (2, 2), (2, 3), (2, 4), (2, 32), (2, 111), (2, 190), (3, 0), (3, 0), (3, 0), (0, 0), (0, 0), (0, 0)])) rfl (fun _ _ => rfl) ((RO_ne (by omega)).trans ((hA (199) (by omega)).trans sh199)) (hz3 (199) (by omega) (by omega)) (Nat.le_of_ble_eq_true rfl) (Nat.le_of_ble_eq_true rfl) dX6_init_73 ?_
  refine jg_dup C dX6_init_76 rfl ?_
  refine jg_init C in_X6_49 (c_X2_init l G _ (up2 (up2 I (32) 9 (-1)) (111) 9 (-1)) L3 (199) ⟨by show 199 < 200; omega, _, _, (RO_ne (by omega)).trans ((hA (199) (by omega)).trans sh199)⟩) ⟨Nat.le_of_ble_eq_true rfl, Nat.le_of_ble_eq_true rfl⟩ (Nat.le_of_ble_eq_true rfl) ⟨Nat.le_of_ble_eq_true rfl, Nat.le_of_ble_eq_true rfl⟩ dX6_init_77 (fun rg4 I4 L4 p4 => ?_)
  obtain ⟨rfl, rfl, hE4⟩ := p4
  have hz4 : ∀ q, 200 ≤ q → q < 226 → (up2 (up2 I (32) 9 (-1)) (111) 9 (-1)) q = (fun _ => 0) ∧ L4 q = (fun _ => 0) := fun q a b => ⟨(hz3 q (by omega) (by omega)).1, by rw [← hE4, setF_ne (by omega)]; exact (hz3 q (by omega) (by omega)).2⟩
  have hF4 : ∀ q, ¬ (0 ≤ q ∧ q < 226) → L4 q = L q := fun q hq => by rw [← hE4, setF_ne (by omega)]; exact hF3 q hq
  refine jg_putR (K := 200) (f := fA) (t := 199) C (by omega) fr_X6_50 (Nat.le_of_ble_eq_true rfl) hin dX6_init_80 ?_
  refine tg_rg (rg1 := (RO (200) fA 0 6 [(2, 1), (2, 2), (2, 3), (2, 4), (2, 32), (2, 111), (2, 190), (2, 199), (3, 0), (3, 0), (0, 0), (0, 0), (0, 0)])) rfl ?_
  refine jg_aload_n C dX6_init_83 rfl rfl ?_
  refine jn_new C nc_X6_47 (K := 200) rfl (rg1 := (RO (201) fA 0 6 [(2, 1), (2, 2), (2, 3), (2, 4), (2, 32), (2, 111), (2, 190), (2, 199), (3, 0), (3, 0), (0, 0), (0, 0), (0, 0)])) rfl (fun _ _ => rfl) ((RO_ne (by omega)).trans ((hA (200) (by omega)).trans sh200)) (hz4 (200) (by omega) (by omega)) (Nat.le_of_ble_eq_true rfl) (Nat.le_of_ble_eq_true rfl) dX6_init_84 ?_
  refine jg_dup C dX6_init_87 rfl ?_
  refine jg_init C in_X6_49 (c_X2_init l G _ (up2 (up2 I (32) 9 (-1)) (111) 9 (-1)) L4 (200) ⟨by show 200 < 201; omega, _, _, (RO_ne (by omega)).trans ((hA (200) (by omega)).trans sh200)⟩) ⟨Nat.le_of_ble_eq_true rfl, Nat.le_of_ble_eq_true rfl⟩ (Nat.le_of_ble_eq_true rfl) ⟨Nat.le_of_ble_eq_true rfl, Nat.le_of_ble_eq_true rfl⟩ dX6_init_88 (fun rg5 I5 L5 p5 => ?_)
  obtain ⟨rfl, rfl, hE5⟩ := p5
  have hz5 : ∀ q, 201 ≤ q → q < 226 → (up2 (up2 I (32) 9 (-1)) (111) 9 (-1)) q = (fun _ => 0) ∧ L5 q = (fun _ => 0) := fun q a b => ⟨(hz4 q (by omega) (by omega)).1, by rw [← hE5, setF_ne (by omega)]; exact (hz4 q (by omega) (by omega)).2⟩
  have hF5 : ∀ q, ¬ (0 ≤ q ∧ q < 226) → L5 q = L q := fun q hq => by rw [← hE5, setF_ne (by omega)]; exact hF4 q hq
  refine jg_putR (K := 201) (f := fA) (t := 200) C (by omega) fr_X6_54 (Nat.le_of_ble_eq_true rfl) hin dX6_init_91 ?_
  refine tg_rg (rg1 := (RO (201) fA 0 6 [(2, 1), (2, 2), (2, 3), (2, 4), (2, 32), (2, 111), (2, 190), (2, 199), (2, 200), (3, 0), (0, 0), (0, 0), (0, 0)])) rfl ?_
  refine jg_aload_n C dX6_init_94 rfl rfl ?_
  refine jn_new C nc_X6_47 (K := 201) rfl (rg1 := (RO (202) fA 0 6 [(2, 1), (2, 2), (2, 3), (2, 4), (2, 32), (2, 111), (2, 190), (2, 199), (2, 200), (3, 0), (0, 0), (0, 0), (0, 0)])) rfl (fun _ _ => rfl) ((RO_ne (by omega)).trans ((hA (201) (by omega)).trans sh201)) (hz5 (201) (by omega) (by omega)) (Nat.le_of_ble_eq_true rfl) (Nat.le_of_ble_eq_true rfl) dX6_init_95 ?_
  refine jg_dup C dX6_init_98 rfl ?_
  refine jg_init C in_X6_49 (c_X2_init l G _ (up2 (up2 I (32) 9 (-1)) (111) 9 (-1)) L5 (201) ⟨by show 201 < 202; omega, _, _, (RO_ne (by omega)).trans ((hA (201) (by omega)).trans sh201)⟩) ⟨Nat.le_of_ble_eq_true rfl, Nat.le_of_ble_eq_true rfl⟩ (Nat.le_of_ble_eq_true rfl) ⟨Nat.le_of_ble_eq_true rfl, Nat.le_of_ble_eq_true rfl⟩ dX6_init_99 (fun rg6 I6 L6 p6 => ?_)
  obtain ⟨rfl, rfl, hE6⟩ := p6
  have hz6 : ∀ q, 202 ≤ q → q < 226 → (up2 (up2 I (32) 9 (-1)) (111) 9 (-1)) q = (fun _ => 0) ∧ L6 q = (fun _ => 0) := fun q a b => ⟨(hz5 q (by omega) (by omega)).1, by rw [← hE6, setF_ne (by omega)]; exact (hz5 q (by omega) (by omega)).2⟩
  have hF6 : ∀ q, ¬ (0 ≤ q ∧ q < 226) → L6 q = L q := fun q hq => by rw [← hE6, setF_ne (by omega)]; exact hF5 q hq
  refine jg_putR (K := 202) (f := fA) (t := 201) C (by omega) fr_X6_57 (Nat.le_of_ble_eq_true rfl) hin dX6_init_102 ?_
  refine tg_rg (rg1 := (RO (202) fA 0 6 [(2, 1), (2, 2), (2, 3), (2, 4), (2, 32), (2, 111), (2, 190), (2, 199), (2, 200), (2, 201), (0, 0), (0, 0), (0, 0)])) rfl ?_
  refine jg_aload_n C dX6_init_105 rfl rfl ?_
  refine jg_iconst (v := nI 2) C dX6_init_106 (by decide) ?_
  refine jg_putI C (RO_o (by omega)) fw_X6_60 rfl rfl (fits_int _) dX6_init_107 ?_
  refine jg_aload_n C dX6_init_110 rfl rfl ?_
  refine jg_iconst (v := nI 0) C dX6_init_111 (by decide) ?_
  refine jg_putI C (RO_o (by omega)) fw_X6_64 rfl rfl (fits_int _) dX6_init_112 ?_
  refine tg_IL (up2_same _ (show (up2 (up2 (up2 I (32) 9 (-1)) (111) 9 (-1)) 0 10 (nI 2)) 0 11 = 0 from by rw [up2_at, if_pos rfl, if_neg (by decide), up2_ne _ (by decide), up2_ne _ (by decide)]; exact congrFun hI0 _)) rfl ?_
  refine jg_aload_n C dX6_init_115 rfl rfl ?_
  refine jg_iconst (v := nI 0) C dX6_init_116 (by decide) ?_
  refine jg_putI C (RO_o (by omega)) fw_X6_67 rfl rfl (fits_int _) dX6_init_117 ?_
  refine tg_IL (up2_same _ (show (up2 (up2 (up2 I (32) 9 (-1)) (111) 9 (-1)) 0 10 (nI 2)) 0 12 = 0 from by rw [up2_at, if_pos rfl, if_neg (by decide), up2_ne _ (by decide), up2_ne _ (by decide)]; exact congrFun hI0 _)) rfl ?_
  have lp : ∀ (fuel i : Nat) (L1 : LL), 12 < fuel + i → i ≤ 12 → fr L1 192 = (1, 1) → (∀ q, 202 + 2 * i ≤ q → q < 226 → (up2 (up2 (up2 I 32 9 (-1)) 111 9 (-1)) 0 10 (nI 2)) q = (fun _ => 0) ∧ L1 q = (fun _ => 0)) → JG p l e (rmN 5 225 880) s m args below meth c (MQ below (QN G 1 225 (fun rg1 I1 L1 => rg1 = (226, f) ∧ (up2 (up2 (up2 I 32 9 (-1)) 111 9 (-1)) 0 10 (nI 2)) = I1 ∧ fr L1 192 = (1, 1))) args s 225 880 (GB G)) 2 G (202 + 2 * i, va_up f 1 (5, 12, tgP 12 i (fun j => 202 + 2 * j), fsA)) (201 + 2 * i) (568 + 26 * i) (up2 (up2 (up2 I 32 9 (-1)) 111 9 (-1)) 0 10 (nI 2)) L1 122 [some (.ref (gB G + 0)), some (.int (nI i))] [] := by
    intro fuel
    induction fuel with
    | zero => intro i L1 q1 q2; exfalso; omega
    | succ fuel ih =>
      intro i L1 q1 q2 hX hzi
      refine jg_iload_n C dX6_init_122 rfl rfl ?_
      refine jg_bipush (v := nI 12) C dX6_init_123 (by decide) ?_
      refine jg_icmp_ge (tgt := 147) C dX6_init_125 (by decide) (fun h => ?_) (fun h => ?_)
      · have hi : i = 12 := by rw [Int32.le_iff_toInt_le, nI_toInt (by omega), nI_toInt (by omega)] at h; omega
        subst hi
        refine tg_rg (rg1 := (226, f)) (by rw [tgP_n, va_up_id sh1]) ?_
        refine tg_k (kc1 := 225) (ks1 := 880) rfl rfl ?_
        exact jg_vret C hr hs0 dX6_init_147 ⟨rfl, rfl, hX⟩
      · have hi : i < 12 := by rw [Int32.le_iff_toInt_le, nI_toInt (by omega), nI_toInt (by omega)] at h; omega
        refine jg_aload_n C dX6_init_128 rfl rfl ?_
        refine jg_getR C (Ob_sub h1 (by omega) (va_up_ne _ _ (by omega))) fl_X6_11 rfl dX6_init_129 ?_
        refine jg_iload_n C dX6_init_132 rfl rfl ?_
        refine jn_new C nc_X6_9 (K := 202 + 2 * i) rfl (rg1 := RO (202 + 2 * i + 1) (va_up f 1 (5, 12, tgP 12 i (fun j => 202 + 2 * j), fsA)) (202 + 2 * i) 1 [(3, 0)]) rfl (fun q hq => va_up_ne _ _ (by omega)) (va_up_self _ _ _) (hzi _ (by omega) (by omega)) (by show 201 + 2 * i + 1 ≤ 225; omega) (by show 568 + 26 * i + 1 ≤ 880; omega) dX6_init_133 ?_
        refine jg_dup C dX6_init_136 rfl ?_
        refine jg_init C in_X6_70 (c_X1_init l G (va_up f 1 (5, 12, tgP 12 i (fun j => 202 + 2 * j), fsA)) (202 + 2 * i) (up2 (up2 (up2 I 32 9 (-1)) 111 9 (-1)) 0 10 (nI 2)) L1 (isFm_sub (h12 i hi) (fun q hq => va_up_ne _ _ (by omega))) (fun q a b => hzi q (by omega) (by omega))) ⟨Nat.le_of_ble_eq_true rfl, Nat.le_of_ble_eq_true rfl⟩ (Nat.le_of_ble_eq_true rfl) ⟨by show 201 + 2 * i + 1 + 1 ≤ 225; omega, by show 568 + 26 * i + 1 + 25 ≤ 880; omega⟩ dX6_init_137 (fun rg2 I2 L2 p2 => ?_)
        obtain ⟨rfl, rfl, hE⟩ := p2
        refine jg_ast5 (K := 202 + 2 * i + 2) (a := 1) (f := f) (tg := tgP 12 i (fun j => 202 + 2 * j)) (tg1 := tgP 12 (i + 1) (fun j => 202 + 2 * j)) C (by omega) hi (by decide) (Ob_sub (h12 i hi).1 (by omega) (va_up_ne _ _ (by omega))) (by omega) tgP_i tgP_s dX6_init_140 ?_
        refine jg_iinc C dX6_init_141 rfl (v := nI (i + 1)) (by rw [show Int32.ofInt 1 = nI 1 from rfl, nI_add]) (by decide) ?_
        refine jg_goto (tgt := 122) C dX6_init_144 (by decide) ?_
        refine tg_k (kc1 := 201 + 2 * (i + 1)) (ks1 := 568 + 26 * (i + 1)) (by omega) (by omega) ?_
        refine tg_rg (rg1 := (202 + 2 * (i + 1), va_up f 1 (5, 12, tgP 12 (i + 1) (fun j => 202 + 2 * j), fsA))) (by rw [show 202 + 2 * i + 2 = 202 + 2 * (i + 1) by omega]) ?_
        exact ih (i + 1) L2 (by omega) (by omega) (by rw [fr_at, hE 192 (by omega)]; exact hX) (fun q a b => ⟨(hzi q (by omega) (by omega)).1, by rw [hE q (by omega)]; exact (hzi q (by omega) (by omega)).2⟩)
  have hX : fr L6 192 = (1, 1) := by rw [fr_at, ← hE6, setF_ne (by omega), ← hE5, setF_ne (by omega), ← hE4, setF_ne (by omega)]; exact hX3
  refine tg_rg (RO_end (Ob_sub h1 (by omega) (hA 0 (by omega)))) ?_
  refine jg_iconst (v := nI 0) C dX6_init_120 (by decide) ?_
  refine jg_istore_n C dX6_init_121 rfl (by decide) ?_
  subst hfA
  refine tg_k (kc1 := 201 + 2 * 0) (ks1 := 568 + 26 * 0) rfl rfl ?_
  exact lp 13 0 L6 (by omega) (by omega) hX (fun q a b => ⟨by rw [up2_ne _ (by omega)]; exact (hz6 q (by omega) (by omega)).1, (hz6 q (by omega) (by omega)).2⟩)
set_option maxHeartbeats 4000000 in
set_option maxRecDepth 20000 in
theorem c_X7_init (l : Launch) (G : GT) (f : Nat → ShT) (I : II) (L : LL) (hf : isMS (27, f)) (hz : ∀ q, 0 ≤ q → q < 27 → I q = (fun _ => 0) ∧ L q = (fun _ => 0)) : CtN l yX7_init cX7_init 1 1 26 675 G (RO (1) f 0 7 ((0, 0) :: (0, 0) :: (3, 0) :: (0, 0) :: (3, 0) :: (1, 0) :: (1, 0) :: (0, 0) :: (0, 0) :: (3, 0) :: (3, 0) :: (3, 0) :: (3, 0) :: (3, 0) :: (0, 0) :: (3, 0) :: (3, 0) :: (3, 0) :: (3, 0) :: (3, 0) :: (3, 0) :: (0, 0) :: (0, 0) :: (0, 0) :: (0, 0) :: (3, 0) :: (3, 0) :: (3, 0) :: (3, 0) :: (3, 0) :: (3, 0) :: (3, 0) :: (0, 0) :: (3, 0) :: (3, 0) :: (0, 0) :: (0, 0) :: (0, 0) :: (0, 0) :: (0, 0) :: (0, 0) :: (3, 0) :: (3, 0) :: (3, 0) :: (3, 0) :: [])) I L [.ref (gB G + 0)] (fun rg1 I1 L1 => rg1 = (27, f) ∧ up2 (up2 I 0 0 (nI 2)) 0 35 (-1) = I1 ∧ L = L1) := by
  refine ctN_of [some (.ref (gB G + 0))] rfl (Nat.le_of_ble_eq_true rfl) (by decide) rfl ?_
  intro p e s m args below meth c C hr hin hs0
  have hI0 : I 0 = fun _ => 0 := (hz 0 (by omega) (by omega)).1
  obtain ⟨h0, h1, h2, h3, h4, h5, h6, h7, h8, h9, h10, h11, h12, h13, h14, h15, h16, h17, h18, h19, h20, h21, h22, h23, h24, h25, h26⟩ := id hf
  obtain ⟨_, tg1, fs1, sh1⟩ := id h1
  obtain ⟨_, tg2, fs2, sh2⟩ := id h2
  obtain ⟨_, tg3, fs3, sh3⟩ := id h3
  obtain ⟨_, tg4, fs4, sh4⟩ := id h4
  obtain ⟨_, tg5, fs5, sh5⟩ := id h5
  obtain ⟨_, tg6, fs6, sh6⟩ := id h6
  obtain ⟨_, tg7, fs7, sh7⟩ := id h7
  obtain ⟨_, tg8, fs8, sh8⟩ := id h8
  obtain ⟨_, tg9, fs9, sh9⟩ := id h9
  obtain ⟨_, tg10, fs10, sh10⟩ := id h10
  obtain ⟨_, tg11, fs11, sh11⟩ := id h11
  obtain ⟨_, tg12, fs12, sh12⟩ := id h12
  obtain ⟨_, tg13, fs13, sh13⟩ := id h13
  obtain ⟨_, tg14, fs14, sh14⟩ := id h14
  obtain ⟨_, tg15, fs15, sh15⟩ := id h15
  obtain ⟨_, tg16, fs16, sh16⟩ := id h16
  obtain ⟨_, tg17, fs17, sh17⟩ := id h17
  obtain ⟨_, tg18, fs18, sh18⟩ := id h18
  obtain ⟨_, tg19, fs19, sh19⟩ := id h19
  obtain ⟨_, tg20, fs20, sh20⟩ := id h20
  obtain ⟨_, tg21, fs21, sh21⟩ := id h21
  obtain ⟨_, tg22, fs22, sh22⟩ := id h22
  obtain ⟨_, tg23, fs23, sh23⟩ := id h23
  obtain ⟨_, tg24, fs24, sh24⟩ := id h24
  obtain ⟨_, tg25, fs25, sh25⟩ := id h25
  obtain ⟨_, tg26, fs26, sh26⟩ := id h26
  refine jg_aload_n C dX7_init_0 rfl rfl ?_
  refine jg_objInit C oi_X7_1 oi_i oi_c (Nat.le_of_ble_eq_true rfl) (Nat.le_of_ble_eq_true rfl) dX7_init_1 ?_
  refine jg_aload_n C dX7_init_4 rfl rfl ?_
  refine jg_iconst (v := nI 2) C dX7_init_5 (by decide) ?_
  refine jg_putI C (RO_o (by omega)) fw_X7_7 rfl rfl (fits_int _) dX7_init_6 ?_
  have hz0 : ∀ q, 1 ≤ q → q < 27 → (up2 I 0 0 (nI 2)) q = (fun _ => 0) ∧ L q = (fun _ => 0) := fun q a b => ⟨by rw [up2_ne _ (by omega)]; exact (hz q (by omega) (by omega)).1, (hz q (by omega) (by omega)).2⟩
  refine jg_aload_n C dX7_init_9 rfl rfl ?_
  refine jg_sipush (v := nI 300) C dX7_init_10 (by decide) ?_
  refine jn_newaI C (K := 1) rfl (rg1 := (RO (2) f 0 7 ((0, 0) :: (0, 0) :: (3, 0) :: (0, 0) :: (3, 0) :: (1, 0) :: (1, 0) :: (0, 0) :: (0, 0) :: (3, 0) :: (3, 0) :: (3, 0) :: (3, 0) :: (3, 0) :: (0, 0) :: (3, 0) :: (3, 0) :: (3, 0) :: (3, 0) :: (3, 0) :: (3, 0) :: (0, 0) :: (0, 0) :: (0, 0) :: (0, 0) :: (3, 0) :: (3, 0) :: (3, 0) :: (3, 0) :: (3, 0) :: (3, 0) :: (3, 0) :: (0, 0) :: (3, 0) :: (3, 0) :: (0, 0) :: (0, 0) :: (0, 0) :: (0, 0) :: (0, 0) :: (0, 0) :: (3, 0) :: (3, 0) :: (3, 0) :: (3, 0) :: []))) rfl (fun _ _ => rfl) ((RO_ne (by omega)).trans sh1) (hz0 (1) (by omega) (by omega)) (by decide) (Nat.le_of_ble_eq_true rfl) (Nat.le_of_ble_eq_true rfl) dX7_init_13 ?_
  refine jg_putR (K := 2) (f := f) (t := 1) C (by omega) fr_X7_13 (Nat.le_of_ble_eq_true rfl) hin dX7_init_15 ?_
  refine tg_rg (rg1 := (RO (2) f 0 7 ((0, 0) :: (0, 0) :: (2, 1) :: (0, 0) :: (3, 0) :: (1, 0) :: (1, 0) :: (0, 0) :: (0, 0) :: (3, 0) :: (3, 0) :: (3, 0) :: (3, 0) :: (3, 0) :: (0, 0) :: (3, 0) :: (3, 0) :: (3, 0) :: (3, 0) :: (3, 0) :: (3, 0) :: (0, 0) :: (0, 0) :: (0, 0) :: (0, 0) :: (3, 0) :: (3, 0) :: (3, 0) :: (3, 0) :: (3, 0) :: (3, 0) :: (3, 0) :: (0, 0) :: (3, 0) :: (3, 0) :: (0, 0) :: (0, 0) :: (0, 0) :: (0, 0) :: (0, 0) :: (0, 0) :: (3, 0) :: (3, 0) :: (3, 0) :: (3, 0) :: []))) rfl ?_
  refine jg_aload_n C dX7_init_18 rfl rfl ?_
  refine jg_iconst (v := nI 5) C dX7_init_19 (by decide) ?_
  refine jn_newaI C (K := 2) rfl (rg1 := (RO (3) f 0 7 ((0, 0) :: (0, 0) :: (2, 1) :: (0, 0) :: (3, 0) :: (1, 0) :: (1, 0) :: (0, 0) :: (0, 0) :: (3, 0) :: (3, 0) :: (3, 0) :: (3, 0) :: (3, 0) :: (0, 0) :: (3, 0) :: (3, 0) :: (3, 0) :: (3, 0) :: (3, 0) :: (3, 0) :: (0, 0) :: (0, 0) :: (0, 0) :: (0, 0) :: (3, 0) :: (3, 0) :: (3, 0) :: (3, 0) :: (3, 0) :: (3, 0) :: (3, 0) :: (0, 0) :: (3, 0) :: (3, 0) :: (0, 0) :: (0, 0) :: (0, 0) :: (0, 0) :: (0, 0) :: (0, 0) :: (3, 0) :: (3, 0) :: (3, 0) :: (3, 0) :: []))) rfl (fun _ _ => rfl) ((RO_ne (by omega)).trans sh2) (hz0 (2) (by omega) (by omega)) (by decide) (Nat.le_of_ble_eq_true rfl) (Nat.le_of_ble_eq_true rfl) dX7_init_20 ?_
  refine jg_putR (K := 3) (f := f) (t := 2) C (by omega) fr_X7_17 (Nat.le_of_ble_eq_true rfl) hin dX7_init_22 ?_
  refine tg_rg (rg1 := (RO (3) f 0 7 ((0, 0) :: (0, 0) :: (2, 1) :: (0, 0) :: (2, 2) :: (1, 0) :: (1, 0) :: (0, 0) :: (0, 0) :: (3, 0) :: (3, 0) :: (3, 0) :: (3, 0) :: (3, 0) :: (0, 0) :: (3, 0) :: (3, 0) :: (3, 0) :: (3, 0) :: (3, 0) :: (3, 0) :: (0, 0) :: (0, 0) :: (0, 0) :: (0, 0) :: (3, 0) :: (3, 0) :: (3, 0) :: (3, 0) :: (3, 0) :: (3, 0) :: (3, 0) :: (0, 0) :: (3, 0) :: (3, 0) :: (0, 0) :: (0, 0) :: (0, 0) :: (0, 0) :: (0, 0) :: (0, 0) :: (3, 0) :: (3, 0) :: (3, 0) :: (3, 0) :: []))) rfl ?_
  refine jg_aload_n C dX7_init_25 rfl rfl ?_
  refine jg_bipush (v := nI 25) C dX7_init_26 (by decide) ?_
  refine jn_newaJ C (K := 3) rfl (rg1 := (RO (4) f 0 7 ((0, 0) :: (0, 0) :: (2, 1) :: (0, 0) :: (2, 2) :: (1, 0) :: (1, 0) :: (0, 0) :: (0, 0) :: (3, 0) :: (3, 0) :: (3, 0) :: (3, 0) :: (3, 0) :: (0, 0) :: (3, 0) :: (3, 0) :: (3, 0) :: (3, 0) :: (3, 0) :: (3, 0) :: (0, 0) :: (0, 0) :: (0, 0) :: (0, 0) :: (3, 0) :: (3, 0) :: (3, 0) :: (3, 0) :: (3, 0) :: (3, 0) :: (3, 0) :: (0, 0) :: (3, 0) :: (3, 0) :: (0, 0) :: (0, 0) :: (0, 0) :: (0, 0) :: (0, 0) :: (0, 0) :: (3, 0) :: (3, 0) :: (3, 0) :: (3, 0) :: []))) rfl (fun _ _ => rfl) ((RO_ne (by omega)).trans sh3) (hz0 (3) (by omega) (by omega)) (by decide) (Nat.le_of_ble_eq_true rfl) (Nat.le_of_ble_eq_true rfl) dX7_init_28 ?_
  refine jg_putR (K := 4) (f := f) (t := 3) C (by omega) fr_X7_20 (Nat.le_of_ble_eq_true rfl) hin dX7_init_30 ?_
  refine tg_rg (rg1 := (RO (4) f 0 7 ((0, 0) :: (0, 0) :: (2, 1) :: (0, 0) :: (2, 2) :: (1, 0) :: (1, 0) :: (0, 0) :: (0, 0) :: (2, 3) :: (3, 0) :: (3, 0) :: (3, 0) :: (3, 0) :: (0, 0) :: (3, 0) :: (3, 0) :: (3, 0) :: (3, 0) :: (3, 0) :: (3, 0) :: (0, 0) :: (0, 0) :: (0, 0) :: (0, 0) :: (3, 0) :: (3, 0) :: (3, 0) :: (3, 0) :: (3, 0) :: (3, 0) :: (3, 0) :: (0, 0) :: (3, 0) :: (3, 0) :: (0, 0) :: (0, 0) :: (0, 0) :: (0, 0) :: (0, 0) :: (0, 0) :: (3, 0) :: (3, 0) :: (3, 0) :: (3, 0) :: []))) rfl ?_
  refine jg_aload_n C dX7_init_33 rfl rfl ?_
  refine jg_bipush (v := nI 25) C dX7_init_34 (by decide) ?_
  refine jn_newaJ C (K := 4) rfl (rg1 := (RO (5) f 0 7 ((0, 0) :: (0, 0) :: (2, 1) :: (0, 0) :: (2, 2) :: (1, 0) :: (1, 0) :: (0, 0) :: (0, 0) :: (2, 3) :: (3, 0) :: (3, 0) :: (3, 0) :: (3, 0) :: (0, 0) :: (3, 0) :: (3, 0) :: (3, 0) :: (3, 0) :: (3, 0) :: (3, 0) :: (0, 0) :: (0, 0) :: (0, 0) :: (0, 0) :: (3, 0) :: (3, 0) :: (3, 0) :: (3, 0) :: (3, 0) :: (3, 0) :: (3, 0) :: (0, 0) :: (3, 0) :: (3, 0) :: (0, 0) :: (0, 0) :: (0, 0) :: (0, 0) :: (0, 0) :: (0, 0) :: (3, 0) :: (3, 0) :: (3, 0) :: (3, 0) :: []))) rfl (fun _ _ => rfl) ((RO_ne (by omega)).trans sh4) (hz0 (4) (by omega) (by omega)) (by decide) (Nat.le_of_ble_eq_true rfl) (Nat.le_of_ble_eq_true rfl) dX7_init_36 ?_
  refine jg_putR (K := 5) (f := f) (t := 4) C (by omega) fr_X7_24 (Nat.le_of_ble_eq_true rfl) hin dX7_init_38 ?_
  refine tg_rg (rg1 := (RO (5) f 0 7 ((0, 0) :: (0, 0) :: (2, 1) :: (0, 0) :: (2, 2) :: (1, 0) :: (1, 0) :: (0, 0) :: (0, 0) :: (2, 3) :: (2, 4) :: (3, 0) :: (3, 0) :: (3, 0) :: (0, 0) :: (3, 0) :: (3, 0) :: (3, 0) :: (3, 0) :: (3, 0) :: (3, 0) :: (0, 0) :: (0, 0) :: (0, 0) :: (0, 0) :: (3, 0) :: (3, 0) :: (3, 0) :: (3, 0) :: (3, 0) :: (3, 0) :: (3, 0) :: (0, 0) :: (3, 0) :: (3, 0) :: (0, 0) :: (0, 0) :: (0, 0) :: (0, 0) :: (0, 0) :: (0, 0) :: (3, 0) :: (3, 0) :: (3, 0) :: (3, 0) :: []))) rfl ?_
  refine jg_aload_n C dX7_init_41 rfl rfl ?_
  refine jg_bipush (v := nI 25) C dX7_init_42 (by decide) ?_
  refine jn_newaJ C (K := 5) rfl (rg1 := (RO (6) f 0 7 ((0, 0) :: (0, 0) :: (2, 1) :: (0, 0) :: (2, 2) :: (1, 0) :: (1, 0) :: (0, 0) :: (0, 0) :: (2, 3) :: (2, 4) :: (3, 0) :: (3, 0) :: (3, 0) :: (0, 0) :: (3, 0) :: (3, 0) :: (3, 0) :: (3, 0) :: (3, 0) :: (3, 0) :: (0, 0) :: (0, 0) :: (0, 0) :: (0, 0) :: (3, 0) :: (3, 0) :: (3, 0) :: (3, 0) :: (3, 0) :: (3, 0) :: (3, 0) :: (0, 0) :: (3, 0) :: (3, 0) :: (0, 0) :: (0, 0) :: (0, 0) :: (0, 0) :: (0, 0) :: (0, 0) :: (3, 0) :: (3, 0) :: (3, 0) :: (3, 0) :: []))) rfl (fun _ _ => rfl) ((RO_ne (by omega)).trans sh5) (hz0 (5) (by omega) (by omega)) (by decide) (Nat.le_of_ble_eq_true rfl) (Nat.le_of_ble_eq_true rfl) dX7_init_44 ?_
  refine jg_putR (K := 6) (f := f) (t := 5) C (by omega) fr_X7_27 (Nat.le_of_ble_eq_true rfl) hin dX7_init_46 ?_
  refine tg_rg (rg1 := (RO (6) f 0 7 ((0, 0) :: (0, 0) :: (2, 1) :: (0, 0) :: (2, 2) :: (1, 0) :: (1, 0) :: (0, 0) :: (0, 0) :: (2, 3) :: (2, 4) :: (2, 5) :: (3, 0) :: (3, 0) :: (0, 0) :: (3, 0) :: (3, 0) :: (3, 0) :: (3, 0) :: (3, 0) :: (3, 0) :: (0, 0) :: (0, 0) :: (0, 0) :: (0, 0) :: (3, 0) :: (3, 0) :: (3, 0) :: (3, 0) :: (3, 0) :: (3, 0) :: (3, 0) :: (0, 0) :: (3, 0) :: (3, 0) :: (0, 0) :: (0, 0) :: (0, 0) :: (0, 0) :: (0, 0) :: (0, 0) :: (3, 0) :: (3, 0) :: (3, 0) :: (3, 0) :: []))) rfl ?_
  refine jg_aload_n C dX7_init_49 rfl rfl ?_
  refine jg_bipush (v := nI 25) C dX7_init_50 (by decide) ?_
  refine jn_newaJ C (K := 6) rfl (rg1 := (RO (7) f 0 7 ((0, 0) :: (0, 0) :: (2, 1) :: (0, 0) :: (2, 2) :: (1, 0) :: (1, 0) :: (0, 0) :: (0, 0) :: (2, 3) :: (2, 4) :: (2, 5) :: (3, 0) :: (3, 0) :: (0, 0) :: (3, 0) :: (3, 0) :: (3, 0) :: (3, 0) :: (3, 0) :: (3, 0) :: (0, 0) :: (0, 0) :: (0, 0) :: (0, 0) :: (3, 0) :: (3, 0) :: (3, 0) :: (3, 0) :: (3, 0) :: (3, 0) :: (3, 0) :: (0, 0) :: (3, 0) :: (3, 0) :: (0, 0) :: (0, 0) :: (0, 0) :: (0, 0) :: (0, 0) :: (0, 0) :: (3, 0) :: (3, 0) :: (3, 0) :: (3, 0) :: []))) rfl (fun _ _ => rfl) ((RO_ne (by omega)).trans sh6) (hz0 (6) (by omega) (by omega)) (by decide) (Nat.le_of_ble_eq_true rfl) (Nat.le_of_ble_eq_true rfl) dX7_init_52 ?_
  refine jg_putR (K := 7) (f := f) (t := 6) C (by omega) fr_X7_30 (Nat.le_of_ble_eq_true rfl) hin dX7_init_54 ?_
  refine tg_rg (rg1 := (RO (7) f 0 7 ((0, 0) :: (0, 0) :: (2, 1) :: (0, 0) :: (2, 2) :: (1, 0) :: (1, 0) :: (0, 0) :: (0, 0) :: (2, 3) :: (2, 4) :: (2, 5) :: (2, 6) :: (3, 0) :: (0, 0) :: (3, 0) :: (3, 0) :: (3, 0) :: (3, 0) :: (3, 0) :: (3, 0) :: (0, 0) :: (0, 0) :: (0, 0) :: (0, 0) :: (3, 0) :: (3, 0) :: (3, 0) :: (3, 0) :: (3, 0) :: (3, 0) :: (3, 0) :: (0, 0) :: (3, 0) :: (3, 0) :: (0, 0) :: (0, 0) :: (0, 0) :: (0, 0) :: (0, 0) :: (0, 0) :: (3, 0) :: (3, 0) :: (3, 0) :: (3, 0) :: []))) rfl ?_
  refine jg_aload_n C dX7_init_57 rfl rfl ?_
  refine jg_iconst (v := nI 5) C dX7_init_58 (by decide) ?_
  refine jn_newaZ C (K := 7) rfl (rg1 := (RO (8) f 0 7 ((0, 0) :: (0, 0) :: (2, 1) :: (0, 0) :: (2, 2) :: (1, 0) :: (1, 0) :: (0, 0) :: (0, 0) :: (2, 3) :: (2, 4) :: (2, 5) :: (2, 6) :: (3, 0) :: (0, 0) :: (3, 0) :: (3, 0) :: (3, 0) :: (3, 0) :: (3, 0) :: (3, 0) :: (0, 0) :: (0, 0) :: (0, 0) :: (0, 0) :: (3, 0) :: (3, 0) :: (3, 0) :: (3, 0) :: (3, 0) :: (3, 0) :: (3, 0) :: (0, 0) :: (3, 0) :: (3, 0) :: (0, 0) :: (0, 0) :: (0, 0) :: (0, 0) :: (0, 0) :: (0, 0) :: (3, 0) :: (3, 0) :: (3, 0) :: (3, 0) :: []))) rfl (fun _ _ => rfl) ((RO_ne (by omega)).trans sh7) (hz0 (7) (by omega) (by omega)) (by decide) (Nat.le_of_ble_eq_true rfl) (Nat.le_of_ble_eq_true rfl) dX7_init_59 ?_
  refine jg_putR (K := 8) (f := f) (t := 7) C (by omega) fr_X7_33 (Nat.le_of_ble_eq_true rfl) hin dX7_init_61 ?_
  refine tg_rg (rg1 := (RO (8) f 0 7 ((0, 0) :: (0, 0) :: (2, 1) :: (0, 0) :: (2, 2) :: (1, 0) :: (1, 0) :: (0, 0) :: (0, 0) :: (2, 3) :: (2, 4) :: (2, 5) :: (2, 6) :: (2, 7) :: (0, 0) :: (3, 0) :: (3, 0) :: (3, 0) :: (3, 0) :: (3, 0) :: (3, 0) :: (0, 0) :: (0, 0) :: (0, 0) :: (0, 0) :: (3, 0) :: (3, 0) :: (3, 0) :: (3, 0) :: (3, 0) :: (3, 0) :: (3, 0) :: (0, 0) :: (3, 0) :: (3, 0) :: (0, 0) :: (0, 0) :: (0, 0) :: (0, 0) :: (0, 0) :: (0, 0) :: (3, 0) :: (3, 0) :: (3, 0) :: (3, 0) :: []))) rfl ?_
  refine jg_aload_n C dX7_init_64 rfl rfl ?_
  refine jg_iconst (v := nI 5) C dX7_init_65 (by decide) ?_
  refine jn_newaI C (K := 8) rfl (rg1 := (RO (9) f 0 7 ((0, 0) :: (0, 0) :: (2, 1) :: (0, 0) :: (2, 2) :: (1, 0) :: (1, 0) :: (0, 0) :: (0, 0) :: (2, 3) :: (2, 4) :: (2, 5) :: (2, 6) :: (2, 7) :: (0, 0) :: (3, 0) :: (3, 0) :: (3, 0) :: (3, 0) :: (3, 0) :: (3, 0) :: (0, 0) :: (0, 0) :: (0, 0) :: (0, 0) :: (3, 0) :: (3, 0) :: (3, 0) :: (3, 0) :: (3, 0) :: (3, 0) :: (3, 0) :: (0, 0) :: (3, 0) :: (3, 0) :: (0, 0) :: (0, 0) :: (0, 0) :: (0, 0) :: (0, 0) :: (0, 0) :: (3, 0) :: (3, 0) :: (3, 0) :: (3, 0) :: []))) rfl (fun _ _ => rfl) ((RO_ne (by omega)).trans sh8) (hz0 (8) (by omega) (by omega)) (by decide) (Nat.le_of_ble_eq_true rfl) (Nat.le_of_ble_eq_true rfl) dX7_init_66 ?_
  refine jg_putR (K := 9) (f := f) (t := 8) C (by omega) fr_X7_37 (Nat.le_of_ble_eq_true rfl) hin dX7_init_68 ?_
  refine tg_rg (rg1 := (RO (9) f 0 7 ((0, 0) :: (0, 0) :: (2, 1) :: (0, 0) :: (2, 2) :: (1, 0) :: (1, 0) :: (0, 0) :: (0, 0) :: (2, 3) :: (2, 4) :: (2, 5) :: (2, 6) :: (2, 7) :: (0, 0) :: (2, 8) :: (3, 0) :: (3, 0) :: (3, 0) :: (3, 0) :: (3, 0) :: (0, 0) :: (0, 0) :: (0, 0) :: (0, 0) :: (3, 0) :: (3, 0) :: (3, 0) :: (3, 0) :: (3, 0) :: (3, 0) :: (3, 0) :: (0, 0) :: (3, 0) :: (3, 0) :: (0, 0) :: (0, 0) :: (0, 0) :: (0, 0) :: (0, 0) :: (0, 0) :: (3, 0) :: (3, 0) :: (3, 0) :: (3, 0) :: []))) rfl ?_
  refine jg_aload_n C dX7_init_71 rfl rfl ?_
  refine jg_iconst (v := nI 5) C dX7_init_72 (by decide) ?_
  refine jn_newaJ C (K := 9) rfl (rg1 := (RO (10) f 0 7 ((0, 0) :: (0, 0) :: (2, 1) :: (0, 0) :: (2, 2) :: (1, 0) :: (1, 0) :: (0, 0) :: (0, 0) :: (2, 3) :: (2, 4) :: (2, 5) :: (2, 6) :: (2, 7) :: (0, 0) :: (2, 8) :: (3, 0) :: (3, 0) :: (3, 0) :: (3, 0) :: (3, 0) :: (0, 0) :: (0, 0) :: (0, 0) :: (0, 0) :: (3, 0) :: (3, 0) :: (3, 0) :: (3, 0) :: (3, 0) :: (3, 0) :: (3, 0) :: (0, 0) :: (3, 0) :: (3, 0) :: (0, 0) :: (0, 0) :: (0, 0) :: (0, 0) :: (0, 0) :: (0, 0) :: (3, 0) :: (3, 0) :: (3, 0) :: (3, 0) :: []))) rfl (fun _ _ => rfl) ((RO_ne (by omega)).trans sh9) (hz0 (9) (by omega) (by omega)) (by decide) (Nat.le_of_ble_eq_true rfl) (Nat.le_of_ble_eq_true rfl) dX7_init_73 ?_
  refine jg_putR (K := 10) (f := f) (t := 9) C (by omega) fr_X7_40 (Nat.le_of_ble_eq_true rfl) hin dX7_init_75 ?_
  refine tg_rg (rg1 := (RO (10) f 0 7 ((0, 0) :: (0, 0) :: (2, 1) :: (0, 0) :: (2, 2) :: (1, 0) :: (1, 0) :: (0, 0) :: (0, 0) :: (2, 3) :: (2, 4) :: (2, 5) :: (2, 6) :: (2, 7) :: (0, 0) :: (2, 8) :: (2, 9) :: (3, 0) :: (3, 0) :: (3, 0) :: (3, 0) :: (0, 0) :: (0, 0) :: (0, 0) :: (0, 0) :: (3, 0) :: (3, 0) :: (3, 0) :: (3, 0) :: (3, 0) :: (3, 0) :: (3, 0) :: (0, 0) :: (3, 0) :: (3, 0) :: (0, 0) :: (0, 0) :: (0, 0) :: (0, 0) :: (0, 0) :: (0, 0) :: (3, 0) :: (3, 0) :: (3, 0) :: (3, 0) :: []))) rfl ?_
  refine jg_aload_n C dX7_init_78 rfl rfl ?_
  refine jg_iconst (v := nI 5) C dX7_init_79 (by decide) ?_
  refine jn_newaJ C (K := 10) rfl (rg1 := (RO (11) f 0 7 ((0, 0) :: (0, 0) :: (2, 1) :: (0, 0) :: (2, 2) :: (1, 0) :: (1, 0) :: (0, 0) :: (0, 0) :: (2, 3) :: (2, 4) :: (2, 5) :: (2, 6) :: (2, 7) :: (0, 0) :: (2, 8) :: (2, 9) :: (3, 0) :: (3, 0) :: (3, 0) :: (3, 0) :: (0, 0) :: (0, 0) :: (0, 0) :: (0, 0) :: (3, 0) :: (3, 0) :: (3, 0) :: (3, 0) :: (3, 0) :: (3, 0) :: (3, 0) :: (0, 0) :: (3, 0) :: (3, 0) :: (0, 0) :: (0, 0) :: (0, 0) :: (0, 0) :: (0, 0) :: (0, 0) :: (3, 0) :: (3, 0) :: (3, 0) :: (3, 0) :: []))) rfl (fun _ _ => rfl) ((RO_ne (by omega)).trans sh10) (hz0 (10) (by omega) (by omega)) (by decide) (Nat.le_of_ble_eq_true rfl) (Nat.le_of_ble_eq_true rfl) dX7_init_80 ?_
  refine jg_putR (K := 11) (f := f) (t := 10) C (by omega) fr_X7_43 (Nat.le_of_ble_eq_true rfl) hin dX7_init_82 ?_
  refine tg_rg (rg1 := (RO (11) f 0 7 ((0, 0) :: (0, 0) :: (2, 1) :: (0, 0) :: (2, 2) :: (1, 0) :: (1, 0) :: (0, 0) :: (0, 0) :: (2, 3) :: (2, 4) :: (2, 5) :: (2, 6) :: (2, 7) :: (0, 0) :: (2, 8) :: (2, 9) :: (2, 10) :: (3, 0) :: (3, 0) :: (3, 0) :: (0, 0) :: (0, 0) :: (0, 0) :: (0, 0) :: (3, 0) :: (3, 0) :: (3, 0) :: (3, 0) :: (3, 0) :: (3, 0) :: (3, 0) :: (0, 0) :: (3, 0) :: (3, 0) :: (0, 0) :: (0, 0) :: (0, 0) :: (0, 0) :: (0, 0) :: (0, 0) :: (3, 0) :: (3, 0) :: (3, 0) :: (3, 0) :: []))) rfl ?_
  refine jg_aload_n C dX7_init_85 rfl rfl ?_
  refine jg_bipush (v := nI 25) C dX7_init_86 (by decide) ?_
  refine jn_newaJ C (K := 11) rfl (rg1 := (RO (12) f 0 7 ((0, 0) :: (0, 0) :: (2, 1) :: (0, 0) :: (2, 2) :: (1, 0) :: (1, 0) :: (0, 0) :: (0, 0) :: (2, 3) :: (2, 4) :: (2, 5) :: (2, 6) :: (2, 7) :: (0, 0) :: (2, 8) :: (2, 9) :: (2, 10) :: (3, 0) :: (3, 0) :: (3, 0) :: (0, 0) :: (0, 0) :: (0, 0) :: (0, 0) :: (3, 0) :: (3, 0) :: (3, 0) :: (3, 0) :: (3, 0) :: (3, 0) :: (3, 0) :: (0, 0) :: (3, 0) :: (3, 0) :: (0, 0) :: (0, 0) :: (0, 0) :: (0, 0) :: (0, 0) :: (0, 0) :: (3, 0) :: (3, 0) :: (3, 0) :: (3, 0) :: []))) rfl (fun _ _ => rfl) ((RO_ne (by omega)).trans sh11) (hz0 (11) (by omega) (by omega)) (by decide) (Nat.le_of_ble_eq_true rfl) (Nat.le_of_ble_eq_true rfl) dX7_init_88 ?_
  refine jg_putR (K := 12) (f := f) (t := 11) C (by omega) fr_X7_46 (Nat.le_of_ble_eq_true rfl) hin dX7_init_90 ?_
  refine tg_rg (rg1 := (RO (12) f 0 7 ((0, 0) :: (0, 0) :: (2, 1) :: (0, 0) :: (2, 2) :: (1, 0) :: (1, 0) :: (0, 0) :: (0, 0) :: (2, 3) :: (2, 4) :: (2, 5) :: (2, 6) :: (2, 7) :: (0, 0) :: (2, 8) :: (2, 9) :: (2, 10) :: (2, 11) :: (3, 0) :: (3, 0) :: (0, 0) :: (0, 0) :: (0, 0) :: (0, 0) :: (3, 0) :: (3, 0) :: (3, 0) :: (3, 0) :: (3, 0) :: (3, 0) :: (3, 0) :: (0, 0) :: (3, 0) :: (3, 0) :: (0, 0) :: (0, 0) :: (0, 0) :: (0, 0) :: (0, 0) :: (0, 0) :: (3, 0) :: (3, 0) :: (3, 0) :: (3, 0) :: []))) rfl ?_
  refine jg_aload_n C dX7_init_93 rfl rfl ?_
  refine jg_bipush (v := nI 25) C dX7_init_94 (by decide) ?_
  refine jn_newaJ C (K := 12) rfl (rg1 := (RO (13) f 0 7 ((0, 0) :: (0, 0) :: (2, 1) :: (0, 0) :: (2, 2) :: (1, 0) :: (1, 0) :: (0, 0) :: (0, 0) :: (2, 3) :: (2, 4) :: (2, 5) :: (2, 6) :: (2, 7) :: (0, 0) :: (2, 8) :: (2, 9) :: (2, 10) :: (2, 11) :: (3, 0) :: (3, 0) :: (0, 0) :: (0, 0) :: (0, 0) :: (0, 0) :: (3, 0) :: (3, 0) :: (3, 0) :: (3, 0) :: (3, 0) :: (3, 0) :: (3, 0) :: (0, 0) :: (3, 0) :: (3, 0) :: (0, 0) :: (0, 0) :: (0, 0) :: (0, 0) :: (0, 0) :: (0, 0) :: (3, 0) :: (3, 0) :: (3, 0) :: (3, 0) :: []))) rfl (fun _ _ => rfl) ((RO_ne (by omega)).trans sh12) (hz0 (12) (by omega) (by omega)) (by decide) (Nat.le_of_ble_eq_true rfl) (Nat.le_of_ble_eq_true rfl) dX7_init_96 ?_
  refine jg_putR (K := 13) (f := f) (t := 12) C (by omega) fr_X7_49 (Nat.le_of_ble_eq_true rfl) hin dX7_init_98 ?_
  refine tg_rg (rg1 := (RO (13) f 0 7 ((0, 0) :: (0, 0) :: (2, 1) :: (0, 0) :: (2, 2) :: (1, 0) :: (1, 0) :: (0, 0) :: (0, 0) :: (2, 3) :: (2, 4) :: (2, 5) :: (2, 6) :: (2, 7) :: (0, 0) :: (2, 8) :: (2, 9) :: (2, 10) :: (2, 11) :: (2, 12) :: (3, 0) :: (0, 0) :: (0, 0) :: (0, 0) :: (0, 0) :: (3, 0) :: (3, 0) :: (3, 0) :: (3, 0) :: (3, 0) :: (3, 0) :: (3, 0) :: (0, 0) :: (3, 0) :: (3, 0) :: (0, 0) :: (0, 0) :: (0, 0) :: (0, 0) :: (0, 0) :: (0, 0) :: (3, 0) :: (3, 0) :: (3, 0) :: (3, 0) :: []))) rfl ?_
  refine jg_aload_n C dX7_init_101 rfl rfl ?_
  refine jg_iconst (v := nI 5) C dX7_init_102 (by decide) ?_
  refine jn_newaI C (K := 13) rfl (rg1 := (RO (14) f 0 7 ((0, 0) :: (0, 0) :: (2, 1) :: (0, 0) :: (2, 2) :: (1, 0) :: (1, 0) :: (0, 0) :: (0, 0) :: (2, 3) :: (2, 4) :: (2, 5) :: (2, 6) :: (2, 7) :: (0, 0) :: (2, 8) :: (2, 9) :: (2, 10) :: (2, 11) :: (2, 12) :: (3, 0) :: (0, 0) :: (0, 0) :: (0, 0) :: (0, 0) :: (3, 0) :: (3, 0) :: (3, 0) :: (3, 0) :: (3, 0) :: (3, 0) :: (3, 0) :: (0, 0) :: (3, 0) :: (3, 0) :: (0, 0) :: (0, 0) :: (0, 0) :: (0, 0) :: (0, 0) :: (0, 0) :: (3, 0) :: (3, 0) :: (3, 0) :: (3, 0) :: []))) rfl (fun _ _ => rfl) ((RO_ne (by omega)).trans sh13) (hz0 (13) (by omega) (by omega)) (by decide) (Nat.le_of_ble_eq_true rfl) (Nat.le_of_ble_eq_true rfl) dX7_init_103 ?_
  refine jg_putR (K := 14) (f := f) (t := 13) C (by omega) fr_X7_52 (Nat.le_of_ble_eq_true rfl) hin dX7_init_105 ?_
  refine tg_rg (rg1 := (RO (14) f 0 7 ((0, 0) :: (0, 0) :: (2, 1) :: (0, 0) :: (2, 2) :: (1, 0) :: (1, 0) :: (0, 0) :: (0, 0) :: (2, 3) :: (2, 4) :: (2, 5) :: (2, 6) :: (2, 7) :: (0, 0) :: (2, 8) :: (2, 9) :: (2, 10) :: (2, 11) :: (2, 12) :: (2, 13) :: (0, 0) :: (0, 0) :: (0, 0) :: (0, 0) :: (3, 0) :: (3, 0) :: (3, 0) :: (3, 0) :: (3, 0) :: (3, 0) :: (3, 0) :: (0, 0) :: (3, 0) :: (3, 0) :: (0, 0) :: (0, 0) :: (0, 0) :: (0, 0) :: (0, 0) :: (0, 0) :: (3, 0) :: (3, 0) :: (3, 0) :: (3, 0) :: []))) rfl ?_
  refine jg_aload_n C dX7_init_108 rfl rfl ?_
  refine jg_iconst (v := nI 5) C dX7_init_109 (by decide) ?_
  refine jn_newaI C (K := 14) rfl (rg1 := (RO (15) f 0 7 ((0, 0) :: (0, 0) :: (2, 1) :: (0, 0) :: (2, 2) :: (1, 0) :: (1, 0) :: (0, 0) :: (0, 0) :: (2, 3) :: (2, 4) :: (2, 5) :: (2, 6) :: (2, 7) :: (0, 0) :: (2, 8) :: (2, 9) :: (2, 10) :: (2, 11) :: (2, 12) :: (2, 13) :: (0, 0) :: (0, 0) :: (0, 0) :: (0, 0) :: (3, 0) :: (3, 0) :: (3, 0) :: (3, 0) :: (3, 0) :: (3, 0) :: (3, 0) :: (0, 0) :: (3, 0) :: (3, 0) :: (0, 0) :: (0, 0) :: (0, 0) :: (0, 0) :: (0, 0) :: (0, 0) :: (3, 0) :: (3, 0) :: (3, 0) :: (3, 0) :: []))) rfl (fun _ _ => rfl) ((RO_ne (by omega)).trans sh14) (hz0 (14) (by omega) (by omega)) (by decide) (Nat.le_of_ble_eq_true rfl) (Nat.le_of_ble_eq_true rfl) dX7_init_110 ?_
  refine jg_putR (K := 15) (f := f) (t := 14) C (by omega) fr_X7_55 (Nat.le_of_ble_eq_true rfl) hin dX7_init_112 ?_
  refine tg_rg (rg1 := (RO (15) f 0 7 ((0, 0) :: (0, 0) :: (2, 1) :: (0, 0) :: (2, 2) :: (1, 0) :: (1, 0) :: (0, 0) :: (0, 0) :: (2, 3) :: (2, 4) :: (2, 5) :: (2, 6) :: (2, 7) :: (0, 0) :: (2, 8) :: (2, 9) :: (2, 10) :: (2, 11) :: (2, 12) :: (2, 13) :: (0, 0) :: (0, 0) :: (0, 0) :: (0, 0) :: (2, 14) :: (3, 0) :: (3, 0) :: (3, 0) :: (3, 0) :: (3, 0) :: (3, 0) :: (0, 0) :: (3, 0) :: (3, 0) :: (0, 0) :: (0, 0) :: (0, 0) :: (0, 0) :: (0, 0) :: (0, 0) :: (3, 0) :: (3, 0) :: (3, 0) :: (3, 0) :: []))) rfl ?_
  refine jg_aload_n C dX7_init_115 rfl rfl ?_
  refine jg_iconst (v := nI 5) C dX7_init_116 (by decide) ?_
  refine jn_newaI C (K := 15) rfl (rg1 := (RO (16) f 0 7 ((0, 0) :: (0, 0) :: (2, 1) :: (0, 0) :: (2, 2) :: (1, 0) :: (1, 0) :: (0, 0) :: (0, 0) :: (2, 3) :: (2, 4) :: (2, 5) :: (2, 6) :: (2, 7) :: (0, 0) :: (2, 8) :: (2, 9) :: (2, 10) :: (2, 11) :: (2, 12) :: (2, 13) :: (0, 0) :: (0, 0) :: (0, 0) :: (0, 0) :: (2, 14) :: (3, 0) :: (3, 0) :: (3, 0) :: (3, 0) :: (3, 0) :: (3, 0) :: (0, 0) :: (3, 0) :: (3, 0) :: (0, 0) :: (0, 0) :: (0, 0) :: (0, 0) :: (0, 0) :: (0, 0) :: (3, 0) :: (3, 0) :: (3, 0) :: (3, 0) :: []))) rfl (fun _ _ => rfl) ((RO_ne (by omega)).trans sh15) (hz0 (15) (by omega) (by omega)) (by decide) (Nat.le_of_ble_eq_true rfl) (Nat.le_of_ble_eq_true rfl) dX7_init_117 ?_
  refine jg_putR (K := 16) (f := f) (t := 15) C (by omega) fr_X7_58 (Nat.le_of_ble_eq_true rfl) hin dX7_init_119 ?_
  refine tg_rg (rg1 := (RO (16) f 0 7 ((0, 0) :: (0, 0) :: (2, 1) :: (0, 0) :: (2, 2) :: (1, 0) :: (1, 0) :: (0, 0) :: (0, 0) :: (2, 3) :: (2, 4) :: (2, 5) :: (2, 6) :: (2, 7) :: (0, 0) :: (2, 8) :: (2, 9) :: (2, 10) :: (2, 11) :: (2, 12) :: (2, 13) :: (0, 0) :: (0, 0) :: (0, 0) :: (0, 0) :: (2, 14) :: (2, 15) :: (3, 0) :: (3, 0) :: (3, 0) :: (3, 0) :: (3, 0) :: (0, 0) :: (3, 0) :: (3, 0) :: (0, 0) :: (0, 0) :: (0, 0) :: (0, 0) :: (0, 0) :: (0, 0) :: (3, 0) :: (3, 0) :: (3, 0) :: (3, 0) :: []))) rfl ?_
  refine jg_aload_n C dX7_init_122 rfl rfl ?_
  refine jg_bipush (v := nI 10) C dX7_init_123 (by decide) ?_
  refine jn_newaJ C (K := 16) rfl (rg1 := (RO (17) f 0 7 ((0, 0) :: (0, 0) :: (2, 1) :: (0, 0) :: (2, 2) :: (1, 0) :: (1, 0) :: (0, 0) :: (0, 0) :: (2, 3) :: (2, 4) :: (2, 5) :: (2, 6) :: (2, 7) :: (0, 0) :: (2, 8) :: (2, 9) :: (2, 10) :: (2, 11) :: (2, 12) :: (2, 13) :: (0, 0) :: (0, 0) :: (0, 0) :: (0, 0) :: (2, 14) :: (2, 15) :: (3, 0) :: (3, 0) :: (3, 0) :: (3, 0) :: (3, 0) :: (0, 0) :: (3, 0) :: (3, 0) :: (0, 0) :: (0, 0) :: (0, 0) :: (0, 0) :: (0, 0) :: (0, 0) :: (3, 0) :: (3, 0) :: (3, 0) :: (3, 0) :: []))) rfl (fun _ _ => rfl) ((RO_ne (by omega)).trans sh16) (hz0 (16) (by omega) (by omega)) (by decide) (Nat.le_of_ble_eq_true rfl) (Nat.le_of_ble_eq_true rfl) dX7_init_125 ?_
  refine jg_putR (K := 17) (f := f) (t := 16) C (by omega) fr_X7_61 (Nat.le_of_ble_eq_true rfl) hin dX7_init_127 ?_
  refine tg_rg (rg1 := (RO (17) f 0 7 ((0, 0) :: (0, 0) :: (2, 1) :: (0, 0) :: (2, 2) :: (1, 0) :: (1, 0) :: (0, 0) :: (0, 0) :: (2, 3) :: (2, 4) :: (2, 5) :: (2, 6) :: (2, 7) :: (0, 0) :: (2, 8) :: (2, 9) :: (2, 10) :: (2, 11) :: (2, 12) :: (2, 13) :: (0, 0) :: (0, 0) :: (0, 0) :: (0, 0) :: (2, 14) :: (2, 15) :: (2, 16) :: (3, 0) :: (3, 0) :: (3, 0) :: (3, 0) :: (0, 0) :: (3, 0) :: (3, 0) :: (0, 0) :: (0, 0) :: (0, 0) :: (0, 0) :: (0, 0) :: (0, 0) :: (3, 0) :: (3, 0) :: (3, 0) :: (3, 0) :: []))) rfl ?_
  refine jg_aload_n C dX7_init_130 rfl rfl ?_
  refine jg_bipush (v := nI 50) C dX7_init_131 (by decide) ?_
  refine jn_newaJ C (K := 17) rfl (rg1 := (RO (18) f 0 7 ((0, 0) :: (0, 0) :: (2, 1) :: (0, 0) :: (2, 2) :: (1, 0) :: (1, 0) :: (0, 0) :: (0, 0) :: (2, 3) :: (2, 4) :: (2, 5) :: (2, 6) :: (2, 7) :: (0, 0) :: (2, 8) :: (2, 9) :: (2, 10) :: (2, 11) :: (2, 12) :: (2, 13) :: (0, 0) :: (0, 0) :: (0, 0) :: (0, 0) :: (2, 14) :: (2, 15) :: (2, 16) :: (3, 0) :: (3, 0) :: (3, 0) :: (3, 0) :: (0, 0) :: (3, 0) :: (3, 0) :: (0, 0) :: (0, 0) :: (0, 0) :: (0, 0) :: (0, 0) :: (0, 0) :: (3, 0) :: (3, 0) :: (3, 0) :: (3, 0) :: []))) rfl (fun _ _ => rfl) ((RO_ne (by omega)).trans sh17) (hz0 (17) (by omega) (by omega)) (by decide) (Nat.le_of_ble_eq_true rfl) (Nat.le_of_ble_eq_true rfl) dX7_init_133 ?_
  refine jg_putR (K := 18) (f := f) (t := 17) C (by omega) fr_X7_64 (Nat.le_of_ble_eq_true rfl) hin dX7_init_135 ?_
  refine tg_rg (rg1 := (RO (18) f 0 7 ((0, 0) :: (0, 0) :: (2, 1) :: (0, 0) :: (2, 2) :: (1, 0) :: (1, 0) :: (0, 0) :: (0, 0) :: (2, 3) :: (2, 4) :: (2, 5) :: (2, 6) :: (2, 7) :: (0, 0) :: (2, 8) :: (2, 9) :: (2, 10) :: (2, 11) :: (2, 12) :: (2, 13) :: (0, 0) :: (0, 0) :: (0, 0) :: (0, 0) :: (2, 14) :: (2, 15) :: (2, 16) :: (2, 17) :: (3, 0) :: (3, 0) :: (3, 0) :: (0, 0) :: (3, 0) :: (3, 0) :: (0, 0) :: (0, 0) :: (0, 0) :: (0, 0) :: (0, 0) :: (0, 0) :: (3, 0) :: (3, 0) :: (3, 0) :: (3, 0) :: []))) rfl ?_
  refine jg_aload_n C dX7_init_138 rfl rfl ?_
  refine jg_iconst (v := nI 5) C dX7_init_139 (by decide) ?_
  refine jn_newaZ C (K := 18) rfl (rg1 := (RO (19) f 0 7 ((0, 0) :: (0, 0) :: (2, 1) :: (0, 0) :: (2, 2) :: (1, 0) :: (1, 0) :: (0, 0) :: (0, 0) :: (2, 3) :: (2, 4) :: (2, 5) :: (2, 6) :: (2, 7) :: (0, 0) :: (2, 8) :: (2, 9) :: (2, 10) :: (2, 11) :: (2, 12) :: (2, 13) :: (0, 0) :: (0, 0) :: (0, 0) :: (0, 0) :: (2, 14) :: (2, 15) :: (2, 16) :: (2, 17) :: (3, 0) :: (3, 0) :: (3, 0) :: (0, 0) :: (3, 0) :: (3, 0) :: (0, 0) :: (0, 0) :: (0, 0) :: (0, 0) :: (0, 0) :: (0, 0) :: (3, 0) :: (3, 0) :: (3, 0) :: (3, 0) :: []))) rfl (fun _ _ => rfl) ((RO_ne (by omega)).trans sh18) (hz0 (18) (by omega) (by omega)) (by decide) (Nat.le_of_ble_eq_true rfl) (Nat.le_of_ble_eq_true rfl) dX7_init_140 ?_
  refine jg_putR (K := 19) (f := f) (t := 18) C (by omega) fr_X7_67 (Nat.le_of_ble_eq_true rfl) hin dX7_init_142 ?_
  refine tg_rg (rg1 := (RO (19) f 0 7 ((0, 0) :: (0, 0) :: (2, 1) :: (0, 0) :: (2, 2) :: (1, 0) :: (1, 0) :: (0, 0) :: (0, 0) :: (2, 3) :: (2, 4) :: (2, 5) :: (2, 6) :: (2, 7) :: (0, 0) :: (2, 8) :: (2, 9) :: (2, 10) :: (2, 11) :: (2, 12) :: (2, 13) :: (0, 0) :: (0, 0) :: (0, 0) :: (0, 0) :: (2, 14) :: (2, 15) :: (2, 16) :: (2, 17) :: (2, 18) :: (3, 0) :: (3, 0) :: (0, 0) :: (3, 0) :: (3, 0) :: (0, 0) :: (0, 0) :: (0, 0) :: (0, 0) :: (0, 0) :: (0, 0) :: (3, 0) :: (3, 0) :: (3, 0) :: (3, 0) :: []))) rfl ?_
  refine jg_aload_n C dX7_init_145 rfl rfl ?_
  refine jg_iconst (v := nI 5) C dX7_init_146 (by decide) ?_
  refine jn_newaJ C (K := 19) rfl (rg1 := (RO (20) f 0 7 ((0, 0) :: (0, 0) :: (2, 1) :: (0, 0) :: (2, 2) :: (1, 0) :: (1, 0) :: (0, 0) :: (0, 0) :: (2, 3) :: (2, 4) :: (2, 5) :: (2, 6) :: (2, 7) :: (0, 0) :: (2, 8) :: (2, 9) :: (2, 10) :: (2, 11) :: (2, 12) :: (2, 13) :: (0, 0) :: (0, 0) :: (0, 0) :: (0, 0) :: (2, 14) :: (2, 15) :: (2, 16) :: (2, 17) :: (2, 18) :: (3, 0) :: (3, 0) :: (0, 0) :: (3, 0) :: (3, 0) :: (0, 0) :: (0, 0) :: (0, 0) :: (0, 0) :: (0, 0) :: (0, 0) :: (3, 0) :: (3, 0) :: (3, 0) :: (3, 0) :: []))) rfl (fun _ _ => rfl) ((RO_ne (by omega)).trans sh19) (hz0 (19) (by omega) (by omega)) (by decide) (Nat.le_of_ble_eq_true rfl) (Nat.le_of_ble_eq_true rfl) dX7_init_147 ?_
  refine jg_putR (K := 20) (f := f) (t := 19) C (by omega) fr_X7_70 (Nat.le_of_ble_eq_true rfl) hin dX7_init_149 ?_
  refine tg_rg (rg1 := (RO (20) f 0 7 ((0, 0) :: (0, 0) :: (2, 1) :: (0, 0) :: (2, 2) :: (1, 0) :: (1, 0) :: (0, 0) :: (0, 0) :: (2, 3) :: (2, 4) :: (2, 5) :: (2, 6) :: (2, 7) :: (0, 0) :: (2, 8) :: (2, 9) :: (2, 10) :: (2, 11) :: (2, 12) :: (2, 13) :: (0, 0) :: (0, 0) :: (0, 0) :: (0, 0) :: (2, 14) :: (2, 15) :: (2, 16) :: (2, 17) :: (2, 18) :: (2, 19) :: (3, 0) :: (0, 0) :: (3, 0) :: (3, 0) :: (0, 0) :: (0, 0) :: (0, 0) :: (0, 0) :: (0, 0) :: (0, 0) :: (3, 0) :: (3, 0) :: (3, 0) :: (3, 0) :: []))) rfl ?_
  refine jg_aload_n C dX7_init_152 rfl rfl ?_
  refine jg_iconst (v := nI 5) C dX7_init_153 (by decide) ?_
  refine jn_newaJ C (K := 20) rfl (rg1 := (RO (21) f 0 7 ((0, 0) :: (0, 0) :: (2, 1) :: (0, 0) :: (2, 2) :: (1, 0) :: (1, 0) :: (0, 0) :: (0, 0) :: (2, 3) :: (2, 4) :: (2, 5) :: (2, 6) :: (2, 7) :: (0, 0) :: (2, 8) :: (2, 9) :: (2, 10) :: (2, 11) :: (2, 12) :: (2, 13) :: (0, 0) :: (0, 0) :: (0, 0) :: (0, 0) :: (2, 14) :: (2, 15) :: (2, 16) :: (2, 17) :: (2, 18) :: (2, 19) :: (3, 0) :: (0, 0) :: (3, 0) :: (3, 0) :: (0, 0) :: (0, 0) :: (0, 0) :: (0, 0) :: (0, 0) :: (0, 0) :: (3, 0) :: (3, 0) :: (3, 0) :: (3, 0) :: []))) rfl (fun _ _ => rfl) ((RO_ne (by omega)).trans sh20) (hz0 (20) (by omega) (by omega)) (by decide) (Nat.le_of_ble_eq_true rfl) (Nat.le_of_ble_eq_true rfl) dX7_init_154 ?_
  refine jg_putR (K := 21) (f := f) (t := 20) C (by omega) fr_X7_73 (Nat.le_of_ble_eq_true rfl) hin dX7_init_156 ?_
  refine tg_rg (rg1 := (RO (21) f 0 7 ((0, 0) :: (0, 0) :: (2, 1) :: (0, 0) :: (2, 2) :: (1, 0) :: (1, 0) :: (0, 0) :: (0, 0) :: (2, 3) :: (2, 4) :: (2, 5) :: (2, 6) :: (2, 7) :: (0, 0) :: (2, 8) :: (2, 9) :: (2, 10) :: (2, 11) :: (2, 12) :: (2, 13) :: (0, 0) :: (0, 0) :: (0, 0) :: (0, 0) :: (2, 14) :: (2, 15) :: (2, 16) :: (2, 17) :: (2, 18) :: (2, 19) :: (2, 20) :: (0, 0) :: (3, 0) :: (3, 0) :: (0, 0) :: (0, 0) :: (0, 0) :: (0, 0) :: (0, 0) :: (0, 0) :: (3, 0) :: (3, 0) :: (3, 0) :: (3, 0) :: []))) rfl ?_
  refine jg_aload_n C dX7_init_159 rfl rfl ?_
  refine jg_iconst (v := nI 5) C dX7_init_160 (by decide) ?_
  refine jn_newaJ C (K := 21) rfl (rg1 := (RO (22) f 0 7 ((0, 0) :: (0, 0) :: (2, 1) :: (0, 0) :: (2, 2) :: (1, 0) :: (1, 0) :: (0, 0) :: (0, 0) :: (2, 3) :: (2, 4) :: (2, 5) :: (2, 6) :: (2, 7) :: (0, 0) :: (2, 8) :: (2, 9) :: (2, 10) :: (2, 11) :: (2, 12) :: (2, 13) :: (0, 0) :: (0, 0) :: (0, 0) :: (0, 0) :: (2, 14) :: (2, 15) :: (2, 16) :: (2, 17) :: (2, 18) :: (2, 19) :: (2, 20) :: (0, 0) :: (3, 0) :: (3, 0) :: (0, 0) :: (0, 0) :: (0, 0) :: (0, 0) :: (0, 0) :: (0, 0) :: (3, 0) :: (3, 0) :: (3, 0) :: (3, 0) :: []))) rfl (fun _ _ => rfl) ((RO_ne (by omega)).trans sh21) (hz0 (21) (by omega) (by omega)) (by decide) (Nat.le_of_ble_eq_true rfl) (Nat.le_of_ble_eq_true rfl) dX7_init_161 ?_
  refine jg_putR (K := 22) (f := f) (t := 21) C (by omega) fr_X7_76 (Nat.le_of_ble_eq_true rfl) hin dX7_init_163 ?_
  refine tg_rg (rg1 := (RO (22) f 0 7 ((0, 0) :: (0, 0) :: (2, 1) :: (0, 0) :: (2, 2) :: (1, 0) :: (1, 0) :: (0, 0) :: (0, 0) :: (2, 3) :: (2, 4) :: (2, 5) :: (2, 6) :: (2, 7) :: (0, 0) :: (2, 8) :: (2, 9) :: (2, 10) :: (2, 11) :: (2, 12) :: (2, 13) :: (0, 0) :: (0, 0) :: (0, 0) :: (0, 0) :: (2, 14) :: (2, 15) :: (2, 16) :: (2, 17) :: (2, 18) :: (2, 19) :: (2, 20) :: (0, 0) :: (2, 21) :: (3, 0) :: (0, 0) :: (0, 0) :: (0, 0) :: (0, 0) :: (0, 0) :: (0, 0) :: (3, 0) :: (3, 0) :: (3, 0) :: (3, 0) :: []))) rfl ?_
  refine jg_aload_n C dX7_init_166 rfl rfl ?_
  refine jg_iconst (v := nI 5) C dX7_init_167 (by decide) ?_
  refine jn_newaJ C (K := 22) rfl (rg1 := (RO (23) f 0 7 ((0, 0) :: (0, 0) :: (2, 1) :: (0, 0) :: (2, 2) :: (1, 0) :: (1, 0) :: (0, 0) :: (0, 0) :: (2, 3) :: (2, 4) :: (2, 5) :: (2, 6) :: (2, 7) :: (0, 0) :: (2, 8) :: (2, 9) :: (2, 10) :: (2, 11) :: (2, 12) :: (2, 13) :: (0, 0) :: (0, 0) :: (0, 0) :: (0, 0) :: (2, 14) :: (2, 15) :: (2, 16) :: (2, 17) :: (2, 18) :: (2, 19) :: (2, 20) :: (0, 0) :: (2, 21) :: (3, 0) :: (0, 0) :: (0, 0) :: (0, 0) :: (0, 0) :: (0, 0) :: (0, 0) :: (3, 0) :: (3, 0) :: (3, 0) :: (3, 0) :: []))) rfl (fun _ _ => rfl) ((RO_ne (by omega)).trans sh22) (hz0 (22) (by omega) (by omega)) (by decide) (Nat.le_of_ble_eq_true rfl) (Nat.le_of_ble_eq_true rfl) dX7_init_168 ?_
  refine jg_putR (K := 23) (f := f) (t := 22) C (by omega) fr_X7_79 (Nat.le_of_ble_eq_true rfl) hin dX7_init_170 ?_
  refine tg_rg (rg1 := (RO (23) f 0 7 ((0, 0) :: (0, 0) :: (2, 1) :: (0, 0) :: (2, 2) :: (1, 0) :: (1, 0) :: (0, 0) :: (0, 0) :: (2, 3) :: (2, 4) :: (2, 5) :: (2, 6) :: (2, 7) :: (0, 0) :: (2, 8) :: (2, 9) :: (2, 10) :: (2, 11) :: (2, 12) :: (2, 13) :: (0, 0) :: (0, 0) :: (0, 0) :: (0, 0) :: (2, 14) :: (2, 15) :: (2, 16) :: (2, 17) :: (2, 18) :: (2, 19) :: (2, 20) :: (0, 0) :: (2, 21) :: (2, 22) :: (0, 0) :: (0, 0) :: (0, 0) :: (0, 0) :: (0, 0) :: (0, 0) :: (3, 0) :: (3, 0) :: (3, 0) :: (3, 0) :: []))) rfl ?_
  refine jg_aload_n C dX7_init_173 rfl rfl ?_
  refine jg_bipush (v := nI 25) C dX7_init_174 (by decide) ?_
  refine jn_newaJ C (K := 23) rfl (rg1 := (RO (24) f 0 7 ((0, 0) :: (0, 0) :: (2, 1) :: (0, 0) :: (2, 2) :: (1, 0) :: (1, 0) :: (0, 0) :: (0, 0) :: (2, 3) :: (2, 4) :: (2, 5) :: (2, 6) :: (2, 7) :: (0, 0) :: (2, 8) :: (2, 9) :: (2, 10) :: (2, 11) :: (2, 12) :: (2, 13) :: (0, 0) :: (0, 0) :: (0, 0) :: (0, 0) :: (2, 14) :: (2, 15) :: (2, 16) :: (2, 17) :: (2, 18) :: (2, 19) :: (2, 20) :: (0, 0) :: (2, 21) :: (2, 22) :: (0, 0) :: (0, 0) :: (0, 0) :: (0, 0) :: (0, 0) :: (0, 0) :: (3, 0) :: (3, 0) :: (3, 0) :: (3, 0) :: []))) rfl (fun _ _ => rfl) ((RO_ne (by omega)).trans sh23) (hz0 (23) (by omega) (by omega)) (by decide) (Nat.le_of_ble_eq_true rfl) (Nat.le_of_ble_eq_true rfl) dX7_init_176 ?_
  refine jg_putR (K := 24) (f := f) (t := 23) C (by omega) fr_X7_82 (Nat.le_of_ble_eq_true rfl) hin dX7_init_178 ?_
  refine tg_rg (rg1 := (RO (24) f 0 7 ((0, 0) :: (0, 0) :: (2, 1) :: (0, 0) :: (2, 2) :: (1, 0) :: (1, 0) :: (0, 0) :: (0, 0) :: (2, 3) :: (2, 4) :: (2, 5) :: (2, 6) :: (2, 7) :: (0, 0) :: (2, 8) :: (2, 9) :: (2, 10) :: (2, 11) :: (2, 12) :: (2, 13) :: (0, 0) :: (0, 0) :: (0, 0) :: (0, 0) :: (2, 14) :: (2, 15) :: (2, 16) :: (2, 17) :: (2, 18) :: (2, 19) :: (2, 20) :: (0, 0) :: (2, 21) :: (2, 22) :: (0, 0) :: (0, 0) :: (0, 0) :: (0, 0) :: (0, 0) :: (0, 0) :: (2, 23) :: (3, 0) :: (3, 0) :: (3, 0) :: []))) rfl ?_
  refine jg_aload_n C dX7_init_181 rfl rfl ?_
  refine jg_bipush (v := nI 25) C dX7_init_182 (by decide) ?_
  refine jn_newaJ C (K := 24) rfl (rg1 := (RO (25) f 0 7 ((0, 0) :: (0, 0) :: (2, 1) :: (0, 0) :: (2, 2) :: (1, 0) :: (1, 0) :: (0, 0) :: (0, 0) :: (2, 3) :: (2, 4) :: (2, 5) :: (2, 6) :: (2, 7) :: (0, 0) :: (2, 8) :: (2, 9) :: (2, 10) :: (2, 11) :: (2, 12) :: (2, 13) :: (0, 0) :: (0, 0) :: (0, 0) :: (0, 0) :: (2, 14) :: (2, 15) :: (2, 16) :: (2, 17) :: (2, 18) :: (2, 19) :: (2, 20) :: (0, 0) :: (2, 21) :: (2, 22) :: (0, 0) :: (0, 0) :: (0, 0) :: (0, 0) :: (0, 0) :: (0, 0) :: (2, 23) :: (3, 0) :: (3, 0) :: (3, 0) :: []))) rfl (fun _ _ => rfl) ((RO_ne (by omega)).trans sh24) (hz0 (24) (by omega) (by omega)) (by decide) (Nat.le_of_ble_eq_true rfl) (Nat.le_of_ble_eq_true rfl) dX7_init_184 ?_
  refine jg_putR (K := 25) (f := f) (t := 24) C (by omega) fr_X7_85 (Nat.le_of_ble_eq_true rfl) hin dX7_init_186 ?_
  refine tg_rg (rg1 := (RO (25) f 0 7 ((0, 0) :: (0, 0) :: (2, 1) :: (0, 0) :: (2, 2) :: (1, 0) :: (1, 0) :: (0, 0) :: (0, 0) :: (2, 3) :: (2, 4) :: (2, 5) :: (2, 6) :: (2, 7) :: (0, 0) :: (2, 8) :: (2, 9) :: (2, 10) :: (2, 11) :: (2, 12) :: (2, 13) :: (0, 0) :: (0, 0) :: (0, 0) :: (0, 0) :: (2, 14) :: (2, 15) :: (2, 16) :: (2, 17) :: (2, 18) :: (2, 19) :: (2, 20) :: (0, 0) :: (2, 21) :: (2, 22) :: (0, 0) :: (0, 0) :: (0, 0) :: (0, 0) :: (0, 0) :: (0, 0) :: (2, 23) :: (2, 24) :: (3, 0) :: (3, 0) :: []))) rfl ?_
  refine jg_aload_n C dX7_init_189 rfl rfl ?_
  refine jg_bipush (v := nI 25) C dX7_init_190 (by decide) ?_
  refine jn_newaJ C (K := 25) rfl (rg1 := (RO (26) f 0 7 ((0, 0) :: (0, 0) :: (2, 1) :: (0, 0) :: (2, 2) :: (1, 0) :: (1, 0) :: (0, 0) :: (0, 0) :: (2, 3) :: (2, 4) :: (2, 5) :: (2, 6) :: (2, 7) :: (0, 0) :: (2, 8) :: (2, 9) :: (2, 10) :: (2, 11) :: (2, 12) :: (2, 13) :: (0, 0) :: (0, 0) :: (0, 0) :: (0, 0) :: (2, 14) :: (2, 15) :: (2, 16) :: (2, 17) :: (2, 18) :: (2, 19) :: (2, 20) :: (0, 0) :: (2, 21) :: (2, 22) :: (0, 0) :: (0, 0) :: (0, 0) :: (0, 0) :: (0, 0) :: (0, 0) :: (2, 23) :: (2, 24) :: (3, 0) :: (3, 0) :: []))) rfl (fun _ _ => rfl) ((RO_ne (by omega)).trans sh25) (hz0 (25) (by omega) (by omega)) (by decide) (Nat.le_of_ble_eq_true rfl) (Nat.le_of_ble_eq_true rfl) dX7_init_192 ?_
  refine jg_putR (K := 26) (f := f) (t := 25) C (by omega) fr_X7_88 (Nat.le_of_ble_eq_true rfl) hin dX7_init_194 ?_
  refine tg_rg (rg1 := (RO (26) f 0 7 ((0, 0) :: (0, 0) :: (2, 1) :: (0, 0) :: (2, 2) :: (1, 0) :: (1, 0) :: (0, 0) :: (0, 0) :: (2, 3) :: (2, 4) :: (2, 5) :: (2, 6) :: (2, 7) :: (0, 0) :: (2, 8) :: (2, 9) :: (2, 10) :: (2, 11) :: (2, 12) :: (2, 13) :: (0, 0) :: (0, 0) :: (0, 0) :: (0, 0) :: (2, 14) :: (2, 15) :: (2, 16) :: (2, 17) :: (2, 18) :: (2, 19) :: (2, 20) :: (0, 0) :: (2, 21) :: (2, 22) :: (0, 0) :: (0, 0) :: (0, 0) :: (0, 0) :: (0, 0) :: (0, 0) :: (2, 23) :: (2, 24) :: (2, 25) :: (3, 0) :: []))) rfl ?_
  refine jg_aload_n C dX7_init_197 rfl rfl ?_
  refine jg_bipush (v := nI 25) C dX7_init_198 (by decide) ?_
  refine jn_newaJ C (K := 26) rfl (rg1 := (RO (27) f 0 7 ((0, 0) :: (0, 0) :: (2, 1) :: (0, 0) :: (2, 2) :: (1, 0) :: (1, 0) :: (0, 0) :: (0, 0) :: (2, 3) :: (2, 4) :: (2, 5) :: (2, 6) :: (2, 7) :: (0, 0) :: (2, 8) :: (2, 9) :: (2, 10) :: (2, 11) :: (2, 12) :: (2, 13) :: (0, 0) :: (0, 0) :: (0, 0) :: (0, 0) :: (2, 14) :: (2, 15) :: (2, 16) :: (2, 17) :: (2, 18) :: (2, 19) :: (2, 20) :: (0, 0) :: (2, 21) :: (2, 22) :: (0, 0) :: (0, 0) :: (0, 0) :: (0, 0) :: (0, 0) :: (0, 0) :: (2, 23) :: (2, 24) :: (2, 25) :: (3, 0) :: []))) rfl (fun _ _ => rfl) ((RO_ne (by omega)).trans sh26) (hz0 (26) (by omega) (by omega)) (by decide) (Nat.le_of_ble_eq_true rfl) (Nat.le_of_ble_eq_true rfl) dX7_init_200 ?_
  refine jg_putR (K := 27) (f := f) (t := 26) C (by omega) fr_X7_91 (Nat.le_of_ble_eq_true rfl) hin dX7_init_202 ?_
  refine tg_rg (rg1 := (RO (27) f 0 7 ((0, 0) :: (0, 0) :: (2, 1) :: (0, 0) :: (2, 2) :: (1, 0) :: (1, 0) :: (0, 0) :: (0, 0) :: (2, 3) :: (2, 4) :: (2, 5) :: (2, 6) :: (2, 7) :: (0, 0) :: (2, 8) :: (2, 9) :: (2, 10) :: (2, 11) :: (2, 12) :: (2, 13) :: (0, 0) :: (0, 0) :: (0, 0) :: (0, 0) :: (2, 14) :: (2, 15) :: (2, 16) :: (2, 17) :: (2, 18) :: (2, 19) :: (2, 20) :: (0, 0) :: (2, 21) :: (2, 22) :: (0, 0) :: (0, 0) :: (0, 0) :: (0, 0) :: (0, 0) :: (0, 0) :: (2, 23) :: (2, 24) :: (2, 25) :: (2, 26) :: []))) rfl ?_
  refine jg_aload_n C dX7_init_205 rfl rfl ?_
  refine jg_iconst (v := (-1)) C dX7_init_206 (by decide) ?_
  refine jg_putI C (RO_o (by omega)) fw_X7_94 rfl rfl (fits_int _) dX7_init_207 ?_
  refine tg_rg (RO_end h0) ?_
  exact jg_vret C hr hs0 dX7_init_210 ⟨rfl, rfl, rfl⟩
