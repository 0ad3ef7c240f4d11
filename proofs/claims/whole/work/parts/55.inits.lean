/-! ===== constructors, one by one ===== -/
theorem RO_self {K : Nat} {f : Nat → ShT} {o ci : Nat} {fs : List (Nat × Nat)} : (RO K f o ci fs).2 o = (ci + 6, (f o).2.1, (f o).2.2.1, fs) := va_up_self _ _ _
theorem RO_ne {K : Nat} {f : Nat → ShT} {o ci q : Nat} {fs : List (Nat × Nat)} (h : q ≠ o) : (RO K f o ci fs).2 q = f q := va_up_ne _ _ h
section JGA
variable {p : Program} {l : Launch} {e : Env} {R : Room} {s : State} {m : MethodId} {args : Array Value} {below : List Frame} {meth : Method} {c : Code} {Q : State → Prop} {cc : ByteArray} {nL : Nat} {own : String} {G : GT} {rg : RgT} {kc ks : Nat} {I : II} {L : LL} {pc : Nat} {lv : LV} {st : List Value}
theorem jh_aald3 (C : Cx p s m args meth c cc nL own G) {o : Nat} {h : ShT} {i : Int32} (ho : o < rg.1) (hs : rg.2 o = h) (hc : h.1 = 3) (hin : vp_in i h.2.1) {t : Nat} (ht : h.2.2.1 i.toNatClampNeg = t) (h0 : t ≠ 0) (d : decode cc pc = .ok (.aaload, 1)) (k : JG p l e R s m args below meth c Q nL G rg kc ks I L (pc + 1) lv (.ref (gB G + t) :: st)) : JG p l e R s m args below meth c Q nL G rg kc ks I L pc lv (.int i :: .ref (gB G + o) :: st) := by
  intro H locs ls hz hk hP hS hl
  have he := rg_at (G := G) (I := I) (L := L) ho
  rw [hs] at he
  have hcell : rg_cell G I L o h = .inl (G.2.1 3, h.2.1, .inr (.inr (.inr (.inr (fun j => rg_tg (gB G) (h.2.2.1 j)))))) := by simp [rg_cell, hc]
  rw [hcell] at he
  refine va_aldq (C := RX2) C.1 C.2.1 C.2.2.2.2.2.1 hP o 3 he rfl hin d ?_
  have hv : va_rf (rg_tg (gB G) (h.2.2.1 i.toNatClampNeg)) = .ref (gB G + t) := by rw [ht, rg_tg, if_neg h0]; rfl
  rw [hv]
  exact k H locs ls hz hk hP hS hl
theorem jg_aald3 (C : Cx p s m args meth c cc nL own G) {o i n : Nat} {tg : Nat → Nat} {t : Nat} (ar : Rr rg o 3 n tg) (hi : i < n) (hn : n < 2 ^ 31) (ht : tg i = t) (h0 : t ≠ 0) (d : decode cc pc = .ok (.aaload, 1)) (k : JG p l e R s m args below meth c Q nL G rg kc ks I L (pc + 1) lv (.ref (gB G + t) :: st)) : JG p l e R s m args below meth c Q nL G rg kc ks I L pc lv (.int (nI i) :: .ref (gB G + o) :: st) := by
  obtain ⟨ho, fs, hs⟩ := ar
  exact jh_aald3 C ho hs rfl (vp_in_nI hi hn) (by rw [nI_clamp (Nat.lt_trans hi hn)]; exact ht) h0 d k
end JGA
set_option maxHeartbeats 4000000 in
set_option maxRecDepth 20000 in
theorem c_X1_init (l : Launch) (G : GT) (f : Nat → ShT) (o : Nat) (I : II) (L : LL) (hf : isFm (o + 2, f) o) (hz : ∀ q, o ≤ q → q < o + 2 → I q = (fun _ => 0) ∧ L q = (fun _ => 0)) : CtN l yX1_init cX1_init 1 1 1 25 G (RO (o + 1) f o 1 [(3, 0)]) I L [.ref (gB G + o)] (fun rg1 I1 L1 => rg1 = (o + 2, f) ∧ I = I1 ∧ ∀ q, ¬ (o ≤ q ∧ q < o + 2) → L1 q = L q) := by
  refine ctN_of [some (.ref (gB G + o))] rfl (Nat.le_of_ble_eq_true rfl) (by decide) rfl ?_
  intro p e s m args below meth c C hr hin hs0
  have hI0 : I o = fun _ => 0 := (hz o (by omega) (by omega)).1
  obtain ⟨hf1, _, tg1, fs1, sh1⟩ := hf
  refine jg_aload_n C dX1_init_0 rfl rfl ?_
  refine jg_objInit C oi_X1_3 oi_i oi_c (Nat.le_of_ble_eq_true rfl) (Nat.le_of_ble_eq_true rfl) dX1_init_1 ?_
  refine jg_aload_n C dX1_init_4 rfl rfl ?_
  refine jg_bipush (v := nI 25) C dX1_init_5 (by decide) ?_
  refine jn_newaI C (K := o + 1) rfl (rg1 := (RO (o + 2) f o 1 [(3, 0)])) rfl (fun _ _ => rfl) ((RO_ne (by omega)).trans sh1) (hz (o + 1) (by omega) (by omega)) (by decide) (Nat.le_of_ble_eq_true rfl) (Nat.le_of_ble_eq_true rfl) dX1_init_7 ?_
  refine jg_putR (K := o + 2) (f := f) (t := o + 1) C (by omega) fr_X1_9 (Nat.le_of_ble_eq_true rfl) hin dX1_init_9 ?_
  refine tg_rg (rg1 := (RO (o + 2) f o 1 [(2, o + 1)])) rfl ?_
  refine tg_rg (RO_end hf1) ?_
  exact jg_vret C hr hs0 dX1_init_12 ⟨rfl, rfl, fun _ _ => rfl⟩
set_option maxHeartbeats 4000000 in
set_option maxRecDepth 20000 in
theorem c_X3_init (l : Launch) (G : GT) (f : Nat → ShT) (o : Nat) (I : II) (L : LL) (hf : isMx (o + 28, f) o) (hz : ∀ q, o ≤ q → q < o + 28 → I q = (fun _ => 0) ∧ L q = (fun _ => 0)) : CtN l yX3_init cX3_init 1 3 27 77 G (RO (o + 1) f o 3 [(3, 0), (3, 0)]) I L [.ref (gB G + o)] (fun rg1 I1 L1 => rg1 = (o + 28, f) ∧ I = I1 ∧ ∀ q, ¬ (o ≤ q ∧ q < o + 28) → L1 q = L q) := by
  refine ctN_of [some (.ref (gB G + o))] rfl (Nat.le_of_ble_eq_true rfl) (by decide) rfl ?_
  intro p e s m args below meth c C hr hin hs0
  have hI0 : I o = fun _ => 0 := (hz o (by omega) (by omega)).1
  obtain ⟨hf1, ⟨_, fs1, sh1⟩, hf3⟩ := hf
  obtain ⟨_, n27, t27, sh27⟩ := hf3 25 (by decide)
  refine jg_aload_n C dX3_init_0 rfl rfl ?_
  refine jg_objInit C oi_X3_3 oi_i oi_c (Nat.le_of_ble_eq_true rfl) (Nat.le_of_ble_eq_true rfl) dX3_init_1 ?_
  refine jg_aload_n C dX3_init_4 rfl rfl ?_
  refine jg_bipush (v := nI 25) C dX3_init_5 (by decide) ?_
  refine jg_csM C sc_X3_9 (c_row l G (va_up f o (3 + 6, (f o).2.1, (f o).2.2.1, [(3, 0), (3, 0)])) (o + 1) 25 _ _ I L (by decide) (by omega) ((va_up_ne _ _ (by omega)).trans sh1) (fun j hj => by show o + 2 + j = o + 1 + 1 + j; omega) (fun j hj => by obtain ⟨_, a, b, h⟩ := hf3 j (by omega); exact ⟨a, b, (va_up_ne _ _ (by omega)).trans ((by rw [show o + 1 + 1 + j = o + 2 + j by omega]; exact h))⟩) (fun q a b => hz q (by omega) (by omega))) ⟨Nat.le_of_ble_eq_true rfl, Nat.le_of_ble_eq_true rfl⟩ rfl rfl (Nat.le_of_ble_eq_true rfl) ⟨Nat.le_of_ble_eq_true rfl, Nat.le_of_ble_eq_true rfl⟩ dX3_init_7 (fun v0 rg0 I0 L0 p0 => ?_)
  obtain ⟨rfl, rfl, hI0, hE0⟩ := p0
  subst hI0
  have hz0 : ∀ q, o + 27 ≤ q → q < o + 28 → I q = (fun _ => 0) ∧ L0 q = (fun _ => 0) := fun q a b => ⟨(hz q (by omega) (by omega)).1, by rw [hE0 q (by omega)]; exact (hz q (by omega) (by omega)).2⟩
  have hF0 : ∀ q, ¬ (o ≤ q ∧ q < o + 28) → L0 q = L q := fun q hq => (hE0 q (by omega)).trans (rfl)
  refine tg_rg (rg1 := (RO (o + 27) f o 3 [(3, 0), (3, 0)])) rfl ?_
  refine jg_putR (K := o + 27) (f := f) (t := o + 1) C (by omega) fr_X3_13 (Nat.le_of_ble_eq_true rfl) hin dX3_init_10 ?_
  refine tg_rg (rg1 := (RO (o + 27) f o 3 [(2, o + 1), (3, 0)])) rfl ?_
  refine jg_aload_n C dX3_init_13 rfl rfl ?_
  refine jn_new C nc_X3_19 (K := o + 27) rfl (rg1 := (RO (o + 28) f o 3 [(2, o + 1), (3, 0)])) rfl (fun _ _ => rfl) ((RO_ne (by omega)).trans sh27) (hz0 (o + 27) (by omega) (by omega)) (Nat.le_of_ble_eq_true rfl) (Nat.le_of_ble_eq_true rfl) dX3_init_14 ?_
  refine jg_dup C dX3_init_17 rfl ?_
  refine jg_init C in_X3_21 (c_X2_init l G _ I L0 (o + 27) ⟨by show o + 27 < o + 28; omega, _, _, (RO_ne (by omega)).trans sh27⟩) ⟨Nat.le_of_ble_eq_true rfl, Nat.le_of_ble_eq_true rfl⟩ (Nat.le_of_ble_eq_true rfl) ⟨Nat.le_of_ble_eq_true rfl, Nat.le_of_ble_eq_true rfl⟩ dX3_init_18 (fun rg1 I1 L1 p1 => ?_)
  obtain ⟨rfl, rfl, hE1⟩ := p1
  have hz1 : ∀ q, o + 28 ≤ q → q < o + 28 → I q = (fun _ => 0) ∧ L1 q = (fun _ => 0) := fun q a b => ⟨(hz0 q (by omega) (by omega)).1, by rw [← hE1, setF_ne (by omega)]; exact (hz0 q (by omega) (by omega)).2⟩
  have hF1 : ∀ q, ¬ (o ≤ q ∧ q < o + 28) → L1 q = L q := fun q hq => by rw [← hE1, setF_ne (by omega)]; exact hF0 q hq
  refine jg_putR (K := o + 28) (f := f) (t := o + 27) C (by omega) fr_X3_22 (Nat.le_of_ble_eq_true rfl) hin dX3_init_21 ?_
  refine tg_rg (rg1 := (RO (o + 28) f o 3 [(2, o + 1), (2, o + 27)])) rfl ?_
  refine tg_rg (RO_end hf1) ?_
  exact jg_vret C hr hs0 dX3_init_24 ⟨rfl, rfl, hF1⟩
set_option maxHeartbeats 4000000 in
set_option maxRecDepth 20000 in
theorem c_X5_init (l : Launch) (G : GT) (f : Nat → ShT) (o : Nat) (I : II) (L : LL) (hf : isSq (o + 8, f) o) (hz : ∀ q, o ≤ q → q < o + 8 → I q = (fun _ => 0) ∧ L q = (fun _ => 0)) : CtN l yX5_init cX5_init 1 3 7 17 G (RO (o + 1) f o 5 [(3, 0), (3, 0), (0, 0)]) I L [.ref (gB G + o)] (fun rg1 I1 L1 => rg1 = (o + 8, f) ∧ I = I1 ∧ ∀ q, ¬ (o ≤ q ∧ q < o + 8) → L1 q = L q) := by
  refine ctN_of [some (.ref (gB G + o))] rfl (Nat.le_of_ble_eq_true rfl) (by decide) rfl ?_
  intro p e s m args below meth c C hr hin hs0
  have hI0 : I o = fun _ => 0 := (hz o (by omega) (by omega)).1
  obtain ⟨hf1, ⟨_, n1, t1, sh1⟩, ⟨_, fs2, sh2⟩, hf4⟩ := hf
  refine jg_aload_n C dX5_init_0 rfl rfl ?_
  refine jg_objInit C oi_X5_3 oi_i oi_c (Nat.le_of_ble_eq_true rfl) (Nat.le_of_ble_eq_true rfl) dX5_init_1 ?_
  refine jg_aload_n C dX5_init_4 rfl rfl ?_
  refine jn_new C nc_X5_9 (K := o + 1) rfl (rg1 := (RO (o + 2) f o 5 [(3, 0), (3, 0), (0, 0)])) rfl (fun _ _ => rfl) ((RO_ne (by omega)).trans sh1) (hz (o + 1) (by omega) (by omega)) (Nat.le_of_ble_eq_true rfl) (Nat.le_of_ble_eq_true rfl) dX5_init_5 ?_
  refine jg_dup C dX5_init_8 rfl ?_
  refine jg_init C in_X5_11 (c_X2_init l G _ I L (o + 1) ⟨by show o + 1 < o + 2; omega, _, _, (RO_ne (by omega)).trans sh1⟩) ⟨Nat.le_of_ble_eq_true rfl, Nat.le_of_ble_eq_true rfl⟩ (Nat.le_of_ble_eq_true rfl) ⟨Nat.le_of_ble_eq_true rfl, Nat.le_of_ble_eq_true rfl⟩ dX5_init_9 (fun rg0 I0 L0 p0 => ?_)
  obtain ⟨rfl, rfl, hE0⟩ := p0
  have hz0 : ∀ q, o + 2 ≤ q → q < o + 8 → I q = (fun _ => 0) ∧ L0 q = (fun _ => 0) := fun q a b => ⟨(hz q (by omega) (by omega)).1, by rw [← hE0, setF_ne (by omega)]; exact (hz q (by omega) (by omega)).2⟩
  have hF0 : ∀ q, ¬ (o ≤ q ∧ q < o + 8) → L0 q = L q := fun q hq => by rw [← hE0, setF_ne (by omega)]
  refine jg_putR (K := o + 2) (f := f) (t := o + 1) C (by omega) fr_X5_12 (Nat.le_of_ble_eq_true rfl) hin dX5_init_12 ?_
  refine tg_rg (rg1 := (RO (o + 2) f o 5 [(2, o + 1), (3, 0), (0, 0)])) rfl ?_
  refine jg_aload_n C dX5_init_15 rfl rfl ?_
  refine jg_iconst (v := nI 5) C dX5_init_16 (by decide) ?_
  refine jg_csM C sc_X5_18 (c_row l G (va_up f o (5 + 6, (f o).2.1, (f o).2.2.1, [(2, o + 1), (3, 0), (0, 0)])) (o + 2) 5 _ _ I L0 (by decide) (by omega) ((va_up_ne _ _ (by omega)).trans sh2) (fun j hj => by show o + 3 + j = o + 2 + 1 + j; omega) (fun j hj => by obtain ⟨_, a, b, h⟩ := hf4 j (by omega); exact ⟨a, b, (va_up_ne _ _ (by omega)).trans ((by rw [show o + 2 + 1 + j = o + 3 + j by omega]; exact h))⟩) (fun q a b => hz0 q (by omega) (by omega))) ⟨Nat.le_of_ble_eq_true rfl, Nat.le_of_ble_eq_true rfl⟩ rfl rfl (Nat.le_of_ble_eq_true rfl) ⟨Nat.le_of_ble_eq_true rfl, Nat.le_of_ble_eq_true rfl⟩ dX5_init_17 (fun v1 rg1 I1 L1 p1 => ?_)
  obtain ⟨rfl, rfl, hI1, hE1⟩ := p1
  subst hI1
  have hz1 : ∀ q, o + 8 ≤ q → q < o + 8 → I q = (fun _ => 0) ∧ L1 q = (fun _ => 0) := fun q a b => ⟨(hz0 q (by omega) (by omega)).1, by rw [hE1 q (by omega)]; exact (hz0 q (by omega) (by omega)).2⟩
  have hF1 : ∀ q, ¬ (o ≤ q ∧ q < o + 8) → L1 q = L q := fun q hq => (hE1 q (by omega)).trans (hF0 q hq)
  refine tg_rg (rg1 := (RO (o + 8) f o 5 [(2, o + 1), (3, 0), (0, 0)])) rfl ?_
  refine jg_putR (K := o + 8) (f := f) (t := o + 2) C (by omega) fr_X5_22 (Nat.le_of_ble_eq_true rfl) hin dX5_init_20 ?_
  refine tg_rg (rg1 := (RO (o + 8) f o 5 [(2, o + 1), (2, o + 2), (0, 0)])) rfl ?_
  refine jg_aload_n C dX5_init_23 rfl rfl ?_
  refine jg_iconst (v := nI 0) C dX5_init_24 (by decide) ?_
  refine jg_putI C (RO_o (by omega)) fw_X5_26 rfl rfl (fits_int _) dX5_init_25 ?_
  refine tg_IL (up2_same _ (show I o 2 = 0 from congrFun hI0 _)) rfl ?_
  refine tg_rg (RO_end hf1) ?_
  exact jg_vret C hr hs0 dX5_init_28 ⟨rfl, rfl, hF1⟩
set_option maxHeartbeats 4000000 in
set_option maxRecDepth 20000 in
theorem c_X4_init (l : Launch) (G : GT) (f : Nat → ShT) (o : Nat) (I : II) (L : LL) (hf : isPt (o + 9, f) o) (hz : ∀ q, o ≤ q → q < o + 9 → I q = (fun _ => 0) ∧ L q = (fun _ => 0)) : CtN l yX4_init cX4_init 1 3 8 19 G (RO (o + 1) f o 4 [(3, 0), (3, 0), (3, 0), (0, 0)]) I L [.ref (gB G + o)] (fun rg1 I1 L1 => rg1 = (o + 9, f) ∧ I = I1 ∧ (∀ q, ¬ (o ≤ q ∧ q < o + 9) → L1 q = L q) ∧ fr L1 (o + 2) = (1, 1)) := by
  refine ctN_of [some (.ref (gB G + o))] rfl (Nat.le_of_ble_eq_true rfl) (by decide) rfl ?_
  intro p e s m args below meth c C hr hin hs0
  have hI0 : I o = fun _ => 0 := (hz o (by omega) (by omega)).1
  obtain ⟨hf1, hf2, hf3, hf4, hf5⟩ := id hf
  obtain ⟨_, fs1, sh1⟩ := id hf2
  obtain ⟨_, n7, t7, sh7⟩ := id hf4
  obtain ⟨_, n8, t8, sh8⟩ := id hf5
  refine jg_aload_n C dX4_init_0 rfl rfl ?_
  refine jg_objInit C oi_X4_3 oi_i oi_c (Nat.le_of_ble_eq_true rfl) (Nat.le_of_ble_eq_true rfl) dX4_init_1 ?_
  refine jg_aload_n C dX4_init_4 rfl rfl ?_
  refine jg_iconst (v := nI 5) C dX4_init_5 (by decide) ?_
  refine jg_csM C sc_X4_9 (c_row l G (va_up f o (4 + 6, (f o).2.1, (f o).2.2.1, [(3, 0), (3, 0), (3, 0), (0, 0)])) (o + 1) 5 _ _ I L (by decide) (by omega) ((va_up_ne _ _ (by omega)).trans sh1) (fun j hj => by show o + 2 + j = o + 1 + 1 + j; omega) (fun j hj => by obtain ⟨_, a, b, h⟩ := hf3 j (by omega); exact ⟨a, b, (va_up_ne _ _ (by omega)).trans ((by rw [show o + 1 + 1 + j = o + 2 + j by omega]; exact h))⟩) (fun q a b => hz q (by omega) (by omega))) ⟨Nat.le_of_ble_eq_true rfl, Nat.le_of_ble_eq_true rfl⟩ rfl rfl (Nat.le_of_ble_eq_true rfl) ⟨Nat.le_of_ble_eq_true rfl, Nat.le_of_ble_eq_true rfl⟩ dX4_init_6 (fun v0 rg0 I0 L0 p0 => ?_)
  obtain ⟨rfl, rfl, hI0, hE0⟩ := p0
  subst hI0
  have hz0 : ∀ q, o + 7 ≤ q → q < o + 9 → I q = (fun _ => 0) ∧ L0 q = (fun _ => 0) := fun q a b => ⟨(hz q (by omega) (by omega)).1, by rw [hE0 q (by omega)]; exact (hz q (by omega) (by omega)).2⟩
  have hF0 : ∀ q, ¬ (o ≤ q ∧ q < o + 9) → L0 q = L q := fun q hq => (hE0 q (by omega)).trans (rfl)
  refine tg_rg (rg1 := (RO (o + 7) f o 4 [(3, 0), (3, 0), (3, 0), (0, 0)])) rfl ?_
  refine jg_putR (K := o + 7) (f := f) (t := o + 1) C (by omega) fr_X4_13 (Nat.le_of_ble_eq_true rfl) hin dX4_init_9 ?_
  refine tg_rg (rg1 := (RO (o + 7) f o 4 [(2, o + 1), (3, 0), (3, 0), (0, 0)])) rfl ?_
  refine jg_aload_n C dX4_init_12 rfl rfl ?_
  refine jn_new C nc_X4_19 (K := o + 7) rfl (rg1 := (RO (o + 8) f o 4 [(2, o + 1), (3, 0), (3, 0), (0, 0)])) rfl (fun _ _ => rfl) ((RO_ne (by omega)).trans sh7) (hz0 (o + 7) (by omega) (by omega)) (Nat.le_of_ble_eq_true rfl) (Nat.le_of_ble_eq_true rfl) dX4_init_13 ?_
  refine jg_dup C dX4_init_16 rfl ?_
  refine jg_init C in_X4_21 (c_X2_init l G _ I L0 (o + 7) ⟨by show o + 7 < o + 8; omega, _, _, (RO_ne (by omega)).trans sh7⟩) ⟨Nat.le_of_ble_eq_true rfl, Nat.le_of_ble_eq_true rfl⟩ (Nat.le_of_ble_eq_true rfl) ⟨Nat.le_of_ble_eq_true rfl, Nat.le_of_ble_eq_true rfl⟩ dX4_init_17 (fun rg1 I1 L1 p1 => ?_)
  obtain ⟨rfl, rfl, hE1⟩ := p1
  have hz1 : ∀ q, o + 8 ≤ q → q < o + 9 → I q = (fun _ => 0) ∧ L1 q = (fun _ => 0) := fun q a b => ⟨(hz0 q (by omega) (by omega)).1, by rw [← hE1, setF_ne (by omega)]; exact (hz0 q (by omega) (by omega)).2⟩
  have hF1 : ∀ q, ¬ (o ≤ q ∧ q < o + 9) → L1 q = L q := fun q hq => by rw [← hE1, setF_ne (by omega)]; exact hF0 q hq
  refine jg_putR (K := o + 8) (f := f) (t := o + 7) C (by omega) fr_X4_22 (Nat.le_of_ble_eq_true rfl) hin dX4_init_20 ?_
  refine tg_rg (rg1 := (RO (o + 8) f o 4 [(2, o + 1), (2, o + 7), (3, 0), (0, 0)])) rfl ?_
  refine jg_aload_n C dX4_init_23 rfl rfl ?_
  refine jn_new C nc_X4_19 (K := o + 8) rfl (rg1 := (RO (o + 9) f o 4 [(2, o + 1), (2, o + 7), (3, 0), (0, 0)])) rfl (fun _ _ => rfl) ((RO_ne (by omega)).trans sh8) (hz1 (o + 8) (by omega) (by omega)) (Nat.le_of_ble_eq_true rfl) (Nat.le_of_ble_eq_true rfl) dX4_init_24 ?_
  refine jg_dup C dX4_init_27 rfl ?_
  refine jg_init C in_X4_21 (c_X2_init l G _ I L1 (o + 8) ⟨by show o + 8 < o + 9; omega, _, _, (RO_ne (by omega)).trans sh8⟩) ⟨Nat.le_of_ble_eq_true rfl, Nat.le_of_ble_eq_true rfl⟩ (Nat.le_of_ble_eq_true rfl) ⟨Nat.le_of_ble_eq_true rfl, Nat.le_of_ble_eq_true rfl⟩ dX4_init_28 (fun rg2 I2 L2 p2 => ?_)
  obtain ⟨rfl, rfl, hE2⟩ := p2
  have hz2 : ∀ q, o + 9 ≤ q → q < o + 9 → I q = (fun _ => 0) ∧ L2 q = (fun _ => 0) := fun q a b => ⟨(hz1 q (by omega) (by omega)).1, by rw [← hE2, setF_ne (by omega)]; exact (hz1 q (by omega) (by omega)).2⟩
  have hF2 : ∀ q, ¬ (o ≤ q ∧ q < o + 9) → L2 q = L q := fun q hq => by rw [← hE2, setF_ne (by omega)]; exact hF1 q hq
  refine jg_putR (K := o + 9) (f := f) (t := o + 8) C (by omega) fr_X4_26 (Nat.le_of_ble_eq_true rfl) hin dX4_init_31 ?_
  refine tg_rg (rg1 := (RO (o + 9) f o 4 [(2, o + 1), (2, o + 7), (2, o + 8), (0, 0)])) rfl ?_
  refine jg_aload_n C dX4_init_34 rfl rfl ?_
  refine jg_iconst (v := nI 0) C dX4_init_35 (by decide) ?_
  refine jg_putI C (RO_o (by omega)) fw_X4_29 rfl rfl rfl dX4_init_36 ?_
  refine tg_IL (up2_same _ (show I o 3 = 0 from congrFun hI0 _)) rfl ?_
  refine tg_rg (RO_end hf1) ?_
  refine jg_aload_n C dX4_init_39 rfl rfl ?_
  refine jg_getR C hf1 fl_X4_13 rfl dX4_init_40 ?_
  refine jg_iconst (v := nI 0) C dX4_init_43 (by decide) ?_
  refine jg_aald3 C hf2 (by decide) (by decide) (t := o + 2 + 0) rfl (by omega) dX4_init_44 ?_
  refine jg_lconst (v := 1) C dX4_init_45 (by decide) ?_
  refine jg_lconst (v := 1) C dX4_init_46 (by decide) ?_
  obtain ⟨hp0, hp1, hp2, hp3⟩ := hf3 0 (by decide)
  refine jg_cvI (As := [.long 1, .long 1]) C vc_X4_33 (c_X2_put l G _ _ _ (o + 2 + 0) 1 1 (hf3 0 (by decide))) ⟨Nat.le_of_ble_eq_true rfl, Nat.le_of_ble_eq_true rfl⟩ hp0 hp3 rfl rfl rfl (Nat.le_of_ble_eq_true rfl) ⟨Nat.le_of_ble_eq_true rfl, Nat.le_of_ble_eq_true rfl⟩ dX4_init_47 (fun r9 I9 L9 p9 => ?_)
  obtain ⟨rfl, rfl, hE9⟩ := Put_some p9 (show fPut (decO 1) (decO 1) = some (1, 1) by decide +kernel)
  refine jg_pop C dX4_init_50 rfl ?_
  exact jg_vret C hr hs0 dX4_init_51 ⟨rfl, rfl, fun q hq => by rw [← hE9, setF_ne (by omega)]; exact hF2 q hq, by rw [← hE9, fr_setF]; exact if_pos rfl⟩
