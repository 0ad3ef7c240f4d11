/-! ===== constructors ===== -/
set_option maxHeartbeats 4000000 in
theorem c_X2_init (l : Launch) (G : GT) (rg : RgT) (I : II) (L : LL) (o : Nat) (ho : isF rg o) : CtN l yX2_init cX2_init 1 1 0 0 G rg I L [.ref (gB G + o)] (fun rg1 I1 L1 => rg = rg1 ∧ I = I1 ∧ setF L o (0, 1) = L1) := by
  refine ctN_of [some (.ref (gB G + o))] rfl (Nat.le_of_ble_eq_true rfl) (by decide) rfl ?_
  intro p e s m args below meth c C hr hin hs0
  refine jg_aload_n C dX2_init_0 rfl rfl ?_
  refine jg_objInit C oi_X2_3 oi_i oi_c (Nat.le_of_ble_eq_true rfl) (Nat.le_of_ble_eq_true rfl) dX2_init_1 ?_
  refine jg_aload_n C dX2_init_4 rfl rfl ?_
  refine jg_lconst (v := 0) C dX2_init_5 (by decide) ?_
  refine jg_putL C ho fw_X2_9 rfl rfl (fits_long _) dX2_init_6 ?_
  refine jg_aload_n C dX2_init_9 rfl rfl ?_
  refine jg_lconst (v := 1) C dX2_init_10 (by decide) ?_
  refine jg_putL C ho fw_X2_15 rfl rfl (fits_long _) dX2_init_11 ?_
  exact jg_vret C hr hs0 dX2_init_14 ⟨rfl, rfl, rfl⟩
/-- a row of references, filled up to i -/
def tgP (n i : Nat) (tg : Nat → Nat) (j : Nat) : Nat := if i ≤ j ∧ j < n then 0 else tg j
theorem tgP_0 {n : Nat} {tg : Nat → Nat} : ∀ j, j < n → tgP n 0 tg j = 0 := fun j hj => if_pos ⟨Nat.zero_le _, hj⟩
theorem tgP_n {n : Nat} {tg : Nat → Nat} : tgP n n tg = tg := funext fun j => if_neg (by omega)
theorem tgP_i {n i : Nat} {tg : Nat → Nat} : tgP n (i + 1) tg i = tg i := if_neg (by omega)
theorem tgP_s {n i : Nat} {tg : Nat → Nat} : ∀ j, j ≠ i → tgP n (i + 1) tg j = tgP n i tg j := fun j hj => by
  unfold tgP
  by_cases h : i ≤ j ∧ j < n
  · rw [if_pos h, if_pos (by omega)]
  · rw [if_neg h, if_neg (by omega)]
theorem va_up_id {α : Type} {f : Nat → α} {k : Nat} {v : α} (h : f k = v) : va_up f k v = f := by
  funext q
  by_cases e : q = k
  · rw [e, va_up_self, h]
  · rw [va_up_ne _ _ e]
set_option maxHeartbeats 4000000 in
theorem c_row (l : Launch) (G : GT) (f : Nat → ShT) (K n : Nat) (tg : Nat → Nat) (fs : List (Nat × Nat)) (I : II) (L : LL) (hn : n < 2 ^ 20) (hK0 : 0 < K) (hf : f K = (3, n, tg, fs)) (htg : ∀ j, j < n → tg j = K + 1 + j) (hF : ∀ j, j < n → ∃ a b, f (K + 1 + j) = (2 + 6, a, b, shF)) (hz : ∀ q, K ≤ q → q < K + 1 + n → I q = (fun _ => 0) ∧ L q = (fun _ => 0)) : CtM l yX6_rowOfFractions cX6_rowOfFractions 3 (some (FieldType.array (FieldType.object "SquareSums$Fraction"))) 2 (1 + n) (3 * n) G (K, f) I L [.int (nI n)] (fun v rg1 I1 L1 => v = K ∧ rg1 = (K + 1 + n, f) ∧ I = I1 ∧ ∀ q, ¬ (K ≤ q ∧ q < K + 1 + n) → L1 q = L q) := by
  refine ctM_of [some (.int (nI n)), none, none] rfl (Nat.le_of_ble_eq_true rfl) (by decide) ?_
  intro p e s m args below meth c C hr hs0
  have lp : ∀ (fuel i : Nat) (L1 : LL), n < fuel + i → i ≤ n → (∀ q, ¬ (K ≤ q ∧ q < K + 1 + i) → L1 q = L q) → JG p l e (rmN 2 (1 + n) (3 * n)) s m args below meth c (MQ below (QNR G K (1 + n) (fun v rg1 I1 L1 => v = K ∧ rg1 = (K + 1 + n, f) ∧ I = I1 ∧ ∀ q, ¬ (K ≤ q ∧ q < K + 1 + n) → L1 q = L q)) args s (1 + n) (3 * n) (GB G)) 3 G (K + 1 + i, va_up f K (3, n, tgP n i tg, fs)) (1 + i) (n + 2 * i) I L1 7 [some (.int (nI n)), some (.ref (gB G + K)), some (.int (nI i))] [] := by
    intro fuel
    induction fuel with
    | zero => intro i L1 h1 h2; exfalso; omega
    | succ fuel ih =>
      intro i L1 h1 h2 hL
      refine jg_iload_n C dX6_rowOfFractions_7 rfl rfl ?_
      refine jg_iload_n C dX6_rowOfFractions_8 rfl rfl ?_
      refine jg_icmp_ge (tgt := 28) C dX6_rowOfFractions_9 (by decide) (fun h => ?_) (fun h => ?_)
      · have hi : i = n := by rw [Int32.le_iff_toInt_le, nI_toInt (by omega), nI_toInt (by omega)] at h; omega
        subst hi
        refine jg_aload_n C dX6_rowOfFractions_28 rfl rfl ?_
        refine tg_rg (rg1 := (K + 1 + i, f)) (by rw [tgP_n, va_up_id hf]) ?_
        refine tg_k (kc1 := 1 + i) (ks1 := 3 * i) rfl (by omega) ?_
        exact jg_aret C hr (Or.inr ⟨_, rfl⟩) hs0 dX6_rowOfFractions_29 ⟨rfl, rfl, rfl, hL⟩
      · have hi : i < n := by rw [Int32.le_iff_toInt_le, nI_toInt (by omega), nI_toInt (by omega)] at h; omega
        obtain ⟨a, b, hab⟩ := hF i hi
        refine jg_aload_n C dX6_rowOfFractions_12 rfl rfl ?_
        refine jg_iload_n C dX6_rowOfFractions_13 rfl rfl ?_
        refine jn_new C nc_X6_47 (K := K + 1 + i) rfl (rg1 := (K + 1 + i + 1, va_up f K (3, n, tgP n i tg, fs))) rfl (fun _ _ => rfl) ((va_up_ne _ _ (by omega)).trans hab) ⟨(hz _ (by omega) (by omega)).1, by rw [hL _ (by omega)]; exact (hz _ (by omega) (by omega)).2⟩ (by show 1 + i + 1 ≤ 1 + n; omega) (by show n + 2 * i + 2 ≤ 3 * n; omega) dX6_rowOfFractions_14 ?_
        refine jg_dup C dX6_rowOfFractions_17 rfl ?_
        refine jg_init C in_X6_49 (c_X2_init l G _ I L1 (K + 1 + i) ⟨Nat.lt_succ_self _, _, _, (va_up_ne _ _ (by omega)).trans hab⟩) ⟨Nat.le_of_ble_eq_true rfl, Nat.le_of_ble_eq_true rfl⟩ (Nat.le_of_ble_eq_true rfl) ⟨by show 1 + i + 1 + 0 ≤ 1 + n; omega, by show n + 2 * i + 2 + 0 ≤ 3 * n; omega⟩ dX6_rowOfFractions_18 (fun rg2 I2 L2 p2 => ?_)
        obtain ⟨rfl, rfl, rfl⟩ := p2
        refine jg_ast3 (K := K + 1 + i + 1) (a := K) (f := f) (tg := tgP n i tg) (tg1 := tgP n (i + 1) tg) C (by omega) hi (by omega) ⟨Nat.lt_succ_self _, _, _, (va_up_ne _ _ (by omega)).trans hab⟩ (by omega) (tgP_i.trans (htg i hi)) tgP_s dX6_rowOfFractions_21 ?_
        refine jg_iinc C dX6_rowOfFractions_22 rfl (v := nI (i + 1)) (by rw [show Int32.ofInt 1 = nI 1 from rfl, nI_add]) (by decide) ?_
        refine jg_goto (tgt := 7) C dX6_rowOfFractions_25 (by decide) ?_
        refine tg_k (kc1 := 1 + (i + 1)) (ks1 := n + 2 * (i + 1)) (by omega) (by omega) ?_
        exact ih (i + 1) _ (by omega) (by omega) (fun q hq => by rw [setF_ne (by omega)]; exact hL q (by omega))
  refine jg_iload_n C dX6_rowOfFractions_0 rfl rfl ?_
  refine jn_anew3 C cl_X6_47 (K := K) rfl (rg1 := (K + 1, va_up f K (3, n, tgP n 0 tg, fs))) rfl (fun q hq => va_up_ne _ _ (by omega)) (va_up_self _ _ _) tgP_0 hn (by show 0 + 1 ≤ 1 + n; omega) (by show 0 + n ≤ 3 * n; omega) dX6_rowOfFractions_1 ?_
  refine jg_astore_n C dX6_rowOfFractions_4 rfl (by decide) ?_
  refine jg_iconst (v := nI 0) C dX6_rowOfFractions_5 (by decide) ?_
  refine jg_istore_n C dX6_rowOfFractions_6 rfl (by decide) ?_
  refine tg_k (kc1 := 1 + 0) (ks1 := n + 2 * 0) (by omega) (by omega) ?_
  exact lp (n + 1) 0 L (by omega) (by omega) (fun _ _ => rfl)
theorem Ob_sub {N M o ci : Nat} {f g : Nat → ShT} {fs : List (Nat × Nat)} (h : Ob (N, f) o ci fs) (hM : o < M) (hg : g o = f o) : Ob (M, g) o ci fs := by
  obtain ⟨_, n, tg, h2⟩ := h
  exact ⟨hM, n, tg, hg.trans h2⟩
theorem Rr_sub {N M o k n : Nat} {f g : Nat → ShT} {tg : Nat → Nat} (h : Rr (N, f) o k n tg) (hM : o < M) (hg : g o = f o) : Rr (M, g) o k n tg := by
  obtain ⟨_, fs, h2⟩ := h
  exact ⟨hM, fs, hg.trans h2⟩
theorem Ar_sub {N M o k n : Nat} {f g : Nat → ShT} (h : Ar (N, f) o k n) (hM : o < M) (hg : g o = f o) : Ar (M, g) o k n := by
  obtain ⟨_, tg, fs, h2⟩ := h
  exact ⟨hM, tg, fs, hg.trans h2⟩
theorem isMx_sub {N o : Nat} {f g : Nat → ShT} (h : isMx (N, f) o) (hg : ∀ q, o ≤ q → g q = f q) : isMx (o + 28, g) o := ⟨Ob_sub h.1 (by omega) (hg _ (by omega)), Rr_sub h.2.1 (by omega) (hg _ (by omega)), fun j hj => Ob_sub (h.2.2 j hj) (by omega) (hg _ (by omega))⟩
theorem isSq_sub {N o : Nat} {f g : Nat → ShT} (h : isSq (N, f) o) (hg : ∀ q, o ≤ q → g q = f q) : isSq (o + 8, g) o := ⟨Ob_sub h.1 (by omega) (hg _ (by omega)), Ob_sub h.2.1 (by omega) (hg _ (by omega)), Rr_sub h.2.2.1 (by omega) (hg _ (by omega)), fun j hj => Ob_sub (h.2.2.2 j hj) (by omega) (hg _ (by omega))⟩
theorem isFm_sub {N o : Nat} {f g : Nat → ShT} (h : isFm (N, f) o) (hg : ∀ q, o ≤ q → g q = f q) : isFm (o + 2, g) o := ⟨Ob_sub h.1 (by omega) (hg _ (by omega)), Ar_sub h.2 (by omega) (hg _ (by omega))⟩
theorem isPt_sub {N o : Nat} {f g : Nat → ShT} (h : isPt (N, f) o) (hg : ∀ q, o ≤ q → g q = f q) : isPt (o + 9, g) o := ⟨Ob_sub h.1 (by omega) (hg _ (by omega)), Rr_sub h.2.1 (by omega) (hg _ (by omega)), fun j hj => Ob_sub (h.2.2.1 j hj) (by omega) (hg _ (by omega)), Ob_sub h.2.2.2.1 (by omega) (hg _ (by omega)), Ob_sub h.2.2.2.2 (by omega) (hg _ (by omega))⟩
theorem isEl_sub {N o : Nat} {f g : Nat → ShT} (h : isEl (N, f) o) (hg : ∀ q, o ≤ q → g q = f q) : isEl (o + 79, g) o := by
  obtain ⟨h1, h2, h3, h4, h5, h6, h7, h8, h9⟩ := h
  have w : ∀ {a b : Nat}, a < b → ∀ {q : Nat}, (q < a → q < b) := fun hab _ hq => by omega
  refine ⟨Ob_sub h1 (by omega) (hg _ (by omega)), ⟨Ob_sub h2.1 (by omega) (hg _ (by omega)), Rr_sub h2.2.1 (by omega) (hg _ (by omega)), fun j hj => Ob_sub (h2.2.2 j hj) (by omega) (hg _ (by omega))⟩, Ar_sub h3 (by omega) (hg _ (by omega)), Rr_sub h4 (by omega) (hg _ (by omega)), Rr_sub h5 (by omega) (hg _ (by omega)), fun j hj => Ob_sub (h6 j hj) (by omega) (hg _ (by omega)), Ob_sub h7 (by omega) (hg _ (by omega)), Ob_sub h8 (by omega) (hg _ (by omega)), fun s hs => ?_⟩
  have h := h9 s hs
  exact ⟨Ob_sub h.1 (by omega) (hg _ (by omega)), Ob_sub h.2.1 (by omega) (hg _ (by omega)), Rr_sub h.2.2.1 (by omega) (hg _ (by omega)), fun j hj => Ob_sub (h.2.2.2 j hj) (by omega) (hg _ (by omega))⟩
