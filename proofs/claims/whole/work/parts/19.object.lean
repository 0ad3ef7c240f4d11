/-! ===== the object, its state ===== -/
def isSS (rg : RgT) : Prop := Ob rg 0 6 [(2, 1), (2, 2), (2, 3), (2, 4), (2, 32), (2, 111), (2, 190), (2, 199), (2, 200), (2, 201), (0, 0), (0, 0), (0, 0)] ∧ Rr rg 1 5 12 (fun j => 202 + 2 * j) ∧ Ar rg 2 0 7 ∧ Ar rg 3 1 5 ∧ isMx rg 4 ∧ isEl rg 32 ∧ isEl rg 111 ∧ isPt rg 190 ∧ isF rg 199 ∧ isF rg 200 ∧ isF rg 201 ∧ ∀ f, f < 12 → isFm rg (202 + 2 * f)
def okF (x : Int32) (nf : Nat) : Bool := decide (0 ≤ x.toInt ∧ x.toInt < nf)
def okI (x : Int32) (n : Nat) : Bool := decide (0 ≤ x.toInt ∧ x.toInt ≤ n)
def okP (x : Int32) : Bool := decide (x = 0 ∨ x = 1)
theorem i32_0 : (0 : Int32).toInt = 0 := by decide
theorem okF_a {x : Int32} {nf : Nat} (h : x < 0) : okF x nf = false := decide_eq_false (fun q => by rw [Int32.lt_iff_toInt_lt, i32_0] at h; omega)
theorem okF_b {x : Int32} {nf : Nat} (h : nI nf ≤ x) (hn : nf < 2 ^ 31) : okF x nf = false := decide_eq_false (fun q => by rw [Int32.le_iff_toInt_le, nI_toInt hn] at h; omega)
theorem okF_c {x : Int32} {nf : Nat} (h1 : ¬ x < 0) (h : ¬ nI nf ≤ x) (hn : nf < 2 ^ 31) : okF x nf = true := decide_eq_true (by rw [Int32.lt_iff_toInt_lt, i32_0] at h1; rw [Int32.le_iff_toInt_le, nI_toInt hn] at h; omega)
theorem okI_a {x : Int32} {n : Nat} (h : x < 0) : okI x n = false := decide_eq_false (fun q => by rw [Int32.lt_iff_toInt_lt, i32_0] at h; omega)
theorem okI_b {x : Int32} {n : Nat} (h : nI n < x) (hn : n < 2 ^ 31) : okI x n = false := decide_eq_false (fun q => by rw [Int32.lt_iff_toInt_lt, nI_toInt hn] at h; omega)
theorem okI_c {x : Int32} {n : Nat} (h1 : ¬ x < 0) (h : ¬ nI n < x) (hn : n < 2 ^ 31) : okI x n = true := decide_eq_true (by rw [Int32.lt_iff_toInt_lt, i32_0] at h1; rw [Int32.lt_iff_toInt_lt, nI_toInt hn] at h; omega)
theorem clampI {x : Int32} (h : 0 ≤ x.toInt) : x = nI x.toNatClampNeg := by
  obtain ⟨j, h1, h2⟩ := nI_of (x := x) (by rw [Int32.lt_iff_toInt_lt, i32_0]; omega)
  rw [h2, nI_clamp h1]
theorem clampJ {x : Int32} (h : 0 ≤ x.toInt) : (x.toNatClampNeg : Int) = x.toInt := by
  obtain ⟨j, h1, h2⟩ := nI_of (x := x) (by rw [Int32.lt_iff_toInt_lt, i32_0]; omega)
  rw [h2, nI_clamp h1, nI_toInt h1]
theorem okF_t {x : Int32} {nf : Nat} (h : okF x nf = true) : x = nI x.toNatClampNeg ∧ x.toNatClampNeg < nf := by
  have h1 := of_decide_eq_true h
  exact ⟨clampI h1.1, by have := clampJ h1.1; omega⟩
theorem okI_t {x : Int32} {n : Nat} (h : okI x n = true) : x = nI x.toNatClampNeg ∧ x.toNatClampNeg ≤ n := by
  have h1 := of_decide_eq_true h
  exact ⟨clampI h1.1, by have := clampJ h1.1; omega⟩
/-- n, forms, proofs, numbers, what is told, the elimination, the matrix proved, the point -/
abbrev AS : Type := Nat × Nat × Nat × (Nat → Nat → Int32) × (Nat → Int32) × ES × (Nat → Nat → Fr) × Option (Nat → Fr)
abbrev aN (A : AS) : Nat := A.1
abbrev aF (A : AS) : Nat := A.2.1
abbrev aP (A : AS) : Nat := A.2.2.1
abbrev aV (A : AS) : Nat → Nat → Int32 := A.2.2.2.1
abbrev aT (A : AS) : Nat → Int32 := A.2.2.2.2.1
abbrev aE (A : AS) : ES := A.2.2.2.2.2.1
abbrev aM (A : AS) : Nat → Nat → Fr := A.2.2.2.2.2.2.1
abbrev aX (A : AS) : Option (Nat → Fr) := A.2.2.2.2.2.2.2
def aok (A : AS) : Prop := 1 ≤ aN A ∧ aN A ≤ 4 ∧ aF A ≤ 12 ∧ (aT A 0 = 1 → EW (aN A) (aE A) ∧ EI (aN A) (aE A) ∧ aT A 1 = nI (eS (aE A)) ∧ eS (aE A) ≤ 5) ∧ (aT A 0 ≠ 1 → aT A 1 = 0) ∧ (aP A = 0 → (∀ k, k < 7 → aT A k = 0) ∧ aX A = none)
def RC (A : AS) (I : II) (L : LL) : Prop :=
  I 0 10 = nI (aN A) ∧ I 0 11 = nI (aF A) ∧ I 0 12 = nI (aP A) ∧ (∀ f k, f < 12 → k < 25 → I (203 + 2 * f) k = aV A f k) ∧ (∀ k, k < 7 → I 2 k = aT A k) ∧ I 190 3 = b2i (aX A).isSome ∧ fr L 192 = (1, 1) ∧ (∀ X, aX A = some X → PR 190 (aN A) L X) ∧
  (aT A 0 = 1 → RelC (aN A) 32 I L (aE A) ∧ ∀ i j, i ≤ aN A → j ≤ aN A → fr L (6 + (i * 5 + j)) = aM A i j)
/-- is there such a square -/
def okS (A : AS) (x : Int32) : Bool := decide (¬ x < 0 ∧ ¬ aT A 1 ≤ x)
theorem okS_t {A : AS} {x : Int32} (h : aok A) (ho : okS A x = true) : x = nI x.toNatClampNeg ∧ aT A 0 = 1 ∧ x.toNatClampNeg < eS (aE A) ∧ eS (aE A) ≤ 5 := by
  obtain ⟨h1, h2⟩ := of_decide_eq_true ho
  have h0 : 0 ≤ x.toInt := by rw [Int32.lt_iff_toInt_lt, i32_0] at h1; omega
  obtain ⟨-, -, -, h3, h4, -⟩ := h
  refine ⟨clampI h0, ?_⟩
  by_cases e : aT A 0 = 1
  · obtain ⟨-, -, h5, h6⟩ := h3 e
    rw [h5, Int32.le_iff_toInt_le, nI_toInt (by omega)] at h2
    have := clampJ h0
    exact ⟨e, by omega, h6⟩
  · rw [h4 e, Int32.le_iff_toInt_le, i32_0] at h2
    omega
theorem okS_a {A : AS} {x : Int32} (h : x < 0) : okS A x = false := decide_eq_false (fun q => q.1 h)
theorem okS_b {A : AS} {x : Int32} (h : aT A 1 ≤ x) : okS A x = false := decide_eq_false (fun q => q.2 h)
theorem okS_c {A : AS} {x : Int32} (h1 : ¬ x < 0) (h : ¬ aT A 1 ≤ x) : okS A x = true := decide_eq_true ⟨h1, h⟩
theorem okP_a {x : Int32} (h : x = 0) : okP x = true := decide_eq_true (Or.inl h)
theorem okP_b {x : Int32} (h : x = 1) : okP x = true := decide_eq_true (Or.inr h)
theorem okP_c {x : Int32} (h : ¬ x = 0) (h2 : ¬ x = 1) : okP x = false := decide_eq_false (fun q => q.elim h h2)
theorem bff {b : Bool} (h : b = false) {c : Prop} : ¬ (b = true ∧ c) := fun q => by rw [h] at q; cases q.1
theorem bff2 {b : Bool} (h : b = false) {c : Prop} : ¬ (c ∧ b = true) := fun q => by rw [h] at q; cases q.2
theorem bff3 {b : Bool} (h : b = false) {c d : Prop} : ¬ (c ∧ b = true ∧ d) := fun q => by rw [h] at q; cases q.2.1
theorem bff4 {b : Bool} (h : b = false) {c d : Prop} : ¬ (c ∧ d ∧ b = true) := fun q => by rw [h] at q; cases q.2.2
theorem nff {c d : Prop} (h : c) : ¬ (¬ c ∧ d) := fun q => q.1 h
theorem wR_t {A : AS} {x y : Int32} (h1 : okS A x = true) (h2 : okP y = true) {z : Fr} (hz : z = eW (aE A) x.toNatClampNeg) : (if y = 0 then z.1 else z.2) = (if okS A x = true ∧ okP y = true then (if y = 0 then (eW (aE A) x.toNatClampNeg).1 else (eW (aE A) x.toNatClampNeg).2) else 0) := by
  subst hz; exact (if_pos ⟨h1, h2⟩).symm
theorem wL_t {A : AS} {x k y : Int32} (h1 : okS A x = true) (h3 : okI k (aN A) = true) (h2 : okP y = true) {z : Fr} (hz : z = eN (aE A) x.toNatClampNeg k.toNatClampNeg) : (if y = 0 then z.1 else z.2) = (if okS A x = true ∧ okI k (aN A) = true ∧ okP y = true then (if y = 0 then (eN (aE A) x.toNatClampNeg k.toNatClampNeg).1 else (eN (aE A) x.toNatClampNeg k.toNatClampNeg).2) else 0) := by
  subst hz; exact (if_pos ⟨h1, h3, h2⟩).symm
theorem wP_t {n : Nat} {X : Nat → Fr} {k y : Int32} (h1 : ¬ k = 0) (h3 : okI k n = true) (h2 : okP y = true) {z : Fr} (hz : z = X k.toNatClampNeg) : (if y = 0 then z.1 else z.2) = (if ¬ k = 0 ∧ okI k n = true ∧ okP y = true then (if y = 0 then (X k.toNatClampNeg).1 else (X k.toNatClampNeg).2) else 0) := by
  subst hz; exact (if_pos ⟨h1, h3, h2⟩).symm

set_option maxHeartbeats 4000000 in
set_option maxRecDepth 20000 in
theorem c_X6_isForm (l : Launch) (G : GT) (rg : RgT) (I : II) (L : LL) (A : AS) (x : Int32) (hss : isSS rg) (hRC : RC A I L) (hok : aok A) : CtI l yX6_isForm cX6_isForm 2 (some FieldType.boolean) 1 G rg I L [.ref (gB G + 0), .int x] (fun r I1 L1 => r = b2i (okF x (aF A)) ∧ I = I1 ∧ L = L1) := by
  refine ctI_of [some (.ref (gB G + 0)), some (.int x)] rfl (Nat.le_of_ble_eq_true rfl) (by decide) ?_
  intro p e s m args below meth c C hr
  obtain ⟨so1, so2, so3, so4, so5, so6, so7, so8, so9, so10, so11, so12⟩ := id hss
  obtain ⟨rN, rF, rP, rV, rT, rX, rx0, rXv, rE⟩ := id hRC
  obtain ⟨kN, kN4, kF, kT, kT0, kP⟩ := id hok
  refine j_iload_n C dX6_isForm_0 rfl rfl ?_
  refine j_if_lt (tgt := 16) C dX6_isForm_1 (by decide) (fun h_1 => ?_) (fun h_1 => ?_)
  · refine j_iconst (v := nI 0) C dX6_isForm_16 (by decide) ?_
    exact j_zret C hr (by first | rfl | exact b2i_n _ rfl) dX6_isForm_17 (⟨by first | (rw [okF_a h_1]; rfl) | (rw [okF_b h_9 (by omega)]; rfl) | (rw [okF_c h_1 h_9 (by omega)]; rfl), rfl, rfl⟩)
  · refine j_iload_n C dX6_isForm_4 rfl rfl ?_
    refine j_aload_n C dX6_isForm_5 rfl rfl ?_
    refine g_getI C (by assumption) fl_X6_64 (by rfl) dX6_isForm_6 ?_
    refine t_i rF ?_
    refine j_icmp_ge (tgt := 16) C dX6_isForm_9 (by decide) (fun h_9 => ?_) (fun h_9 => ?_)
    · refine j_iconst (v := nI 0) C dX6_isForm_16 (by decide) ?_
      exact j_zret C hr (by first | rfl | exact b2i_n _ rfl) dX6_isForm_17 (⟨by first | (rw [okF_a h_1]; rfl) | (rw [okF_b h_9 (by omega)]; rfl) | (rw [okF_c h_1 h_9 (by omega)]; rfl), rfl, rfl⟩)
    · refine j_iconst (v := nI 1) C dX6_isForm_12 (by decide) ?_
      refine j_goto (tgt := 17) C dX6_isForm_13 (by decide) ?_
      exact j_zret C hr (by first | rfl | exact b2i_n _ rfl) dX6_isForm_17 (⟨by first | (rw [okF_a h_1]; rfl) | (rw [okF_b h_9 (by omega)]; rfl) | (rw [okF_c h_1 h_9 (by omega)]; rfl), rfl, rfl⟩)

set_option maxHeartbeats 4000000 in
set_option maxRecDepth 20000 in
theorem c_X6_isIndex (l : Launch) (G : GT) (rg : RgT) (I : II) (L : LL) (A : AS) (x : Int32) (hss : isSS rg) (hRC : RC A I L) (hok : aok A) : CtI l yX6_isIndex cX6_isIndex 2 (some FieldType.boolean) 1 G rg I L [.ref (gB G + 0), .int x] (fun r I1 L1 => r = b2i (okI x (aN A)) ∧ I = I1 ∧ L = L1) := by
  refine ctI_of [some (.ref (gB G + 0)), some (.int x)] rfl (Nat.le_of_ble_eq_true rfl) (by decide) ?_
  intro p e s m args below meth c C hr
  obtain ⟨so1, so2, so3, so4, so5, so6, so7, so8, so9, so10, so11, so12⟩ := id hss
  obtain ⟨rN, rF, rP, rV, rT, rX, rx0, rXv, rE⟩ := id hRC
  obtain ⟨kN, kN4, kF, kT, kT0, kP⟩ := id hok
  refine j_iload_n C dX6_isIndex_0 rfl rfl ?_
  refine j_if_lt (tgt := 16) C dX6_isIndex_1 (by decide) (fun h_1 => ?_) (fun h_1 => ?_)
  · refine j_iconst (v := nI 0) C dX6_isIndex_16 (by decide) ?_
    exact j_zret C hr (by first | rfl | exact b2i_n _ rfl) dX6_isIndex_17 (⟨by first | (rw [okI_a h_1]; rfl) | (rw [okI_b h_9 (by omega)]; rfl) | (rw [okI_c h_1 h_9 (by omega)]; rfl), rfl, rfl⟩)
  · refine j_iload_n C dX6_isIndex_4 rfl rfl ?_
    refine j_aload_n C dX6_isIndex_5 rfl rfl ?_
    refine g_getI C (by assumption) fl_X6_60 (by rfl) dX6_isIndex_6 ?_
    refine t_i rN ?_
    refine j_icmp_gt (tgt := 16) C dX6_isIndex_9 (by decide) (fun h_9 => ?_) (fun h_9 => ?_)
    · refine j_iconst (v := nI 0) C dX6_isIndex_16 (by decide) ?_
      exact j_zret C hr (by first | rfl | exact b2i_n _ rfl) dX6_isIndex_17 (⟨by first | (rw [okI_a h_1]; rfl) | (rw [okI_b h_9 (by omega)]; rfl) | (rw [okI_c h_1 h_9 (by omega)]; rfl), rfl, rfl⟩)
    · refine j_iconst (v := nI 1) C dX6_isIndex_12 (by decide) ?_
      refine j_goto (tgt := 17) C dX6_isIndex_13 (by decide) ?_
      exact j_zret C hr (by first | rfl | exact b2i_n _ rfl) dX6_isIndex_17 (⟨by first | (rw [okI_a h_1]; rfl) | (rw [okI_b h_9 (by omega)]; rfl) | (rw [okI_c h_1 h_9 (by omega)]; rfl), rfl, rfl⟩)

set_option maxHeartbeats 4000000 in
set_option maxRecDepth 20000 in
theorem c_X6_isSquare (l : Launch) (G : GT) (rg : RgT) (I : II) (L : LL) (A : AS) (x : Int32) (hss : isSS rg) (hRC : RC A I L) (hok : aok A) : CtI l yX6_isSquare cX6_isSquare 2 (some FieldType.boolean) 1 G rg I L [.ref (gB G + 0), .int x] (fun r I1 L1 => r = b2i (okS A x) ∧ I = I1 ∧ L = L1) := by
  refine ctI_of [some (.ref (gB G + 0)), some (.int x)] rfl (Nat.le_of_ble_eq_true rfl) (by decide) ?_
  intro p e s m args below meth c C hr
  obtain ⟨so1, so2, so3, so4, so5, so6, so7, so8, so9, so10, so11, so12⟩ := id hss
  obtain ⟨rN, rF, rP, rV, rT, rX, rx0, rXv, rE⟩ := id hRC
  obtain ⟨kN, kN4, kF, kT, kT0, kP⟩ := id hok
  refine j_iload_n C dX6_isSquare_0 rfl rfl ?_
  refine j_if_lt (tgt := 18) C dX6_isSquare_1 (by decide) (fun h_1 => ?_) (fun h_1 => ?_)
  · refine j_iconst (v := nI 0) C dX6_isSquare_18 (by decide) ?_
    exact j_zret C hr (by first | rfl | exact b2i_n _ rfl) dX6_isSquare_19 (⟨by first | (rw [okS_a h_1]; rfl) | (rw [okS_b h_11]; rfl) | (rw [okS_c h_1 h_11]; rfl), rfl, rfl⟩)
  · refine j_iload_n C dX6_isSquare_4 rfl rfl ?_
    refine j_aload_n C dX6_isSquare_5 rfl rfl ?_
    refine g_getR C (by assumption) fl_X6_15 (by rfl) dX6_isSquare_6 ?_
    refine j_iconst (v := nI 1) C dX6_isSquare_9 (by decide) ?_
    refine g_iald C (so3) (by omega) (by decide) dX6_isSquare_10 ?_
    refine t_i (rT 1 (by omega)) ?_
    refine j_icmp_ge (tgt := 18) C dX6_isSquare_11 (by decide) (fun h_11 => ?_) (fun h_11 => ?_)
    · refine j_iconst (v := nI 0) C dX6_isSquare_18 (by decide) ?_
      exact j_zret C hr (by first | rfl | exact b2i_n _ rfl) dX6_isSquare_19 (⟨by first | (rw [okS_a h_1]; rfl) | (rw [okS_b h_11]; rfl) | (rw [okS_c h_1 h_11]; rfl), rfl, rfl⟩)
    · refine j_iconst (v := nI 1) C dX6_isSquare_14 (by decide) ?_
      refine j_goto (tgt := 19) C dX6_isSquare_15 (by decide) ?_
      exact j_zret C hr (by first | rfl | exact b2i_n _ rfl) dX6_isSquare_19 (⟨by first | (rw [okS_a h_1]; rfl) | (rw [okS_b h_11]; rfl) | (rw [okS_c h_1 h_11]; rfl), rfl, rfl⟩)

set_option maxHeartbeats 4000000 in
set_option maxRecDepth 20000 in
theorem c_X6_isPart (l : Launch) (G : GT) (rg : RgT) (I : II) (L : LL) (x : Int32)  : CtI l yX6_isPart cX6_isPart 1 (some FieldType.boolean) 1 G rg I L [.int x] (fun r I1 L1 => r = b2i (okP x) ∧ I = I1 ∧ L = L1) := by
  refine ctI_of [some (.int x)] rfl (Nat.le_of_ble_eq_true rfl) (by decide) ?_
  intro p e s m args below meth c C hr
  refine j_iload_n C dX6_isPart_0 rfl rfl ?_
  refine j_if_eq (tgt := 9) C dX6_isPart_1 (by decide) (fun h_1 => ?_) (fun h_1 => ?_)
  · refine j_iconst (v := nI 1) C dX6_isPart_9 (by decide) ?_
    refine j_goto (tgt := 14) C dX6_isPart_10 (by decide) ?_
    exact j_zret C hr (by first | rfl | exact b2i_n _ rfl) dX6_isPart_14 (⟨by first | (rw [okP_a h_1]; rfl) | (rw [okP_b h_6]; rfl) | (rw [okP_c h_1 h_6]; rfl), rfl, rfl⟩)
  · refine j_iload_n C dX6_isPart_4 rfl rfl ?_
    refine j_iconst (v := (1)) C dX6_isPart_5 (by decide) ?_
    refine j_icmp_ne (tgt := 13) C dX6_isPart_6 (by decide) (fun h_6 => ?_) (fun h_6 => ?_)
    · refine j_iconst (v := nI 0) C dX6_isPart_13 (by decide) ?_
      exact j_zret C hr (by first | rfl | exact b2i_n _ rfl) dX6_isPart_14 (⟨by first | (rw [okP_a h_1]; rfl) | (rw [okP_b h_6]; rfl) | (rw [okP_c h_1 h_6]; rfl), rfl, rfl⟩)
    · refine j_iconst (v := nI 1) C dX6_isPart_9 (by decide) ?_
      refine j_goto (tgt := 14) C dX6_isPart_10 (by decide) ?_
      exact j_zret C hr (by first | rfl | exact b2i_n _ rfl) dX6_isPart_14 (⟨by first | (rw [okP_a h_1]; rfl) | (rw [okP_b h_6]; rfl) | (rw [okP_c h_1 h_6]; rfl), rfl, rfl⟩)

set_option maxHeartbeats 4000000 in
set_option maxRecDepth 20000 in
theorem c_X6_isProved (l : Launch) (G : GT) (rg : RgT) (I : II) (L : LL) (A : AS) (hss : isSS rg) (hRC : RC A I L) (hok : aok A) : CtI l yX6_isProved cX6_isProved 1 (some FieldType.boolean) 1 G rg I L [.ref (gB G + 0)] (fun r I1 L1 => r = b2i (decide (aT A 0 = 1)) ∧ I = I1 ∧ L = L1) := by
  refine ctI_of [some (.ref (gB G + 0))] rfl (Nat.le_of_ble_eq_true rfl) (by decide) ?_
  intro p e s m args below meth c C hr
  obtain ⟨so1, so2, so3, so4, so5, so6, so7, so8, so9, so10, so11, so12⟩ := id hss
  obtain ⟨rN, rF, rP, rV, rT, rX, rx0, rXv, rE⟩ := id hRC
  obtain ⟨kN, kN4, kF, kT, kT0, kP⟩ := id hok
  refine j_aload_n C dX6_isProved_0 rfl rfl ?_
  refine g_getR C (by assumption) fl_X6_15 (by rfl) dX6_isProved_1 ?_
  refine j_iconst (v := nI 0) C dX6_isProved_4 (by decide) ?_
  refine g_iald C (so3) (by omega) (by decide) dX6_isProved_5 ?_
  refine t_i (rT 0 (by omega)) ?_
  refine j_iconst (v := (1)) C dX6_isProved_6 (by decide) ?_
  refine j_icmp_ne (tgt := 14) C dX6_isProved_7 (by decide) (fun h_7 => ?_) (fun h_7 => ?_)
  · refine j_iconst (v := nI 0) C dX6_isProved_14 (by decide) ?_
    exact j_zret C hr (by first | rfl | exact b2i_n _ rfl) dX6_isProved_15 (⟨by first | (rw [decide_eq_true h_7]; rfl) | (rw [decide_eq_false h_7]; rfl), rfl, rfl⟩)
  · refine j_iconst (v := nI 1) C dX6_isProved_10 (by decide) ?_
    refine j_goto (tgt := 15) C dX6_isProved_11 (by decide) ?_
    exact j_zret C hr (by first | rfl | exact b2i_n _ rfl) dX6_isProved_15 (⟨by first | (rw [decide_eq_true h_7]; rfl) | (rw [decide_eq_false h_7]; rfl), rfl, rfl⟩)

set_option maxHeartbeats 4000000 in
set_option maxRecDepth 20000 in
theorem c_X6_pivot (l : Launch) (G : GT) (rg : RgT) (I : II) (L : LL) (A : AS) (a b : Int64)  : CtL l yX6_pivot cX6_pivot 5 (some FieldType.long) 8 G rg I L [.ref (gB G + 0), .long a, .long b] (fun r I1 L1 => r = (if b = 0 then -30 else a / b) ∧ I = I1 ∧ L = L1) := by
  refine ctL_of [some (.ref (gB G + 0)), some (.long a), none, some (.long b), none] rfl (Nat.le_of_ble_eq_true rfl) (by decide) ?_
  intro p e s m args below meth c C hr
  refine j_lload_n C dX6_pivot_0 rfl rfl ?_
  refine j_lconst (v := 0) C dX6_pivot_1 (by decide) ?_
  refine j_lc_ne (tgt := 12) C dX6_pivot_2 dX6_pivot_3 (by decide) (fun h_3 => ?_) (fun h_3 => ?_)
  · refine j_lload_n C dX6_pivot_12 rfl rfl ?_
    refine j_lload_n C dX6_pivot_13 rfl rfl ?_
    refine j_ldiv C dX6_pivot_14 (h_3) ?_
    exact j_lret C hr dX6_pivot_15 (⟨by simp [h_3], rfl, rfl⟩)
  · refine j_ldc2 C kc_X6_214 dX6_pivot_6 ?_
    refine j_goto (tgt := 15) C dX6_pivot_9 (by decide) ?_
    exact j_lret C hr dX6_pivot_15 (⟨by simp [h_3], rfl, rfl⟩)

def toldR (A : AS) (x : Int32) : Int32 := if x < 0 ∨ ¬ x < 7 then -1 else if aP A = 0 then -2 else aT A x.toNatClampNeg
set_option maxHeartbeats 4000000 in
set_option maxRecDepth 20000 in
theorem c_X6_told (l : Launch) (G : GT) (rg : RgT) (I : II) (L : LL) (A : AS) (x : Int32) (hss : isSS rg) (hRC : RC A I L) (hok : aok A) (hnp : aP A < 2 ^ 31) : CtI l yX6_told cX6_told 2 (some FieldType.int) 8 G rg I L [.ref (gB G + 0), .int x] (fun r I1 L1 => r = toldR A x ∧ I = I1 ∧ L = L1) := by
  refine ctI_of [some (.ref (gB G + 0)), some (.int x)] rfl (Nat.le_of_ble_eq_true rfl) (by decide) ?_
  intro p e s m args below meth c C hr
  obtain ⟨so1, so2, so3, so4, so5, so6, so7, so8, so9, so10, so11, so12⟩ := id hss
  obtain ⟨rN, rF, rP, rV, rT, rX, rx0, rXv, rE⟩ := id hRC
  obtain ⟨kN, kN4, kF, kT, kT0, kP⟩ := id hok
  refine j_iload_n C dX6_told_0 rfl rfl ?_
  refine j_if_lt (tgt := 10) C dX6_told_1 (by decide) (fun h_1 => ?_) (fun h_1 => ?_)
  · refine j_iconst (v := (-1)) C dX6_told_10 (by decide) ?_
    exact j_iret C hr dX6_told_11 (⟨by unfold toldR; first | (rw [if_pos (Or.inl h_1)]) | (rw [if_pos (Or.inr h_7)]), rfl, rfl⟩)
  · refine j_iload_n C dX6_told_4 rfl rfl ?_
    refine j_bipush (v := (7)) C dX6_told_5 (by decide) ?_
    refine j_icmp_lt (tgt := 12) C dX6_told_7 (by decide) (fun h_7 => ?_) (fun h_7 => ?_)
    · refine j_aload_n C dX6_told_12 rfl rfl ?_
      refine g_getI C (by assumption) fl_X6_67 (by rfl) dX6_told_13 ?_
      refine t_i rP ?_
      refine j_if_ne (tgt := 22) C dX6_told_16 (by decide) (fun h_16 => ?_) (fun h_16 => ?_)
      · refine j_aload_n C dX6_told_22 rfl rfl ?_
        refine g_getR C (by assumption) fl_X6_15 (by rfl) dX6_told_23 ?_
        refine j_iload_n C dX6_told_26 rfl rfl ?_
        obtain ⟨j, hj, rfl⟩ : ∃ j : Nat, j < 7 ∧ x = nI j := by
          obtain ⟨j, h1, h2⟩ := nI_of h_1
          exact ⟨j, (nI_ltI h1 (by decide)).mp (by rw [← h2]; exact h_7), h2⟩
        refine g_iald C (so3) (by omega) (by decide) dX6_told_27 ?_
        refine t_i (rT j (by omega)) ?_
        exact j_iret C hr dX6_told_28 (⟨by unfold toldR; rw [if_neg (fun q => q.elim h_1 (fun z => z h_7)), if_neg (fun z => h_16 (by rw [z]; rfl)), nI_clamp (by omega)], rfl, rfl⟩)
      · refine j_bipush (v := (-2)) C dX6_told_19 (by decide) ?_
        exact j_iret C hr dX6_told_21 (⟨by unfold toldR; rw [if_neg (fun q => q.elim h_1 (fun z => z h_7)), if_pos (Classical.byContradiction fun z => nI_ne0 (Nat.pos_of_ne_zero z) hnp h_16)], rfl, rfl⟩)
    · refine j_iconst (v := (-1)) C dX6_told_10 (by decide) ?_
      exact j_iret C hr dX6_told_11 (⟨by unfold toldR; first | (rw [if_pos (Or.inl h_1)]) | (rw [if_pos (Or.inr h_7)]), rfl, rfl⟩)

def weightR (A : AS) (x y : Int32) : Int64 := if okS A x = true ∧ okP y = true then (if y = 0 then (eW (aE A) x.toNatClampNeg).1 else (eW (aE A) x.toNatClampNeg).2) else 0
def lineR (A : AS) (x k y : Int32) : Int64 := if okS A x = true ∧ okI k (aN A) = true ∧ okP y = true then (if y = 0 then (eN (aE A) x.toNatClampNeg k.toNatClampNeg).1 else (eN (aE A) x.toNatClampNeg k.toNatClampNeg).2) else 0
def pointR (A : AS) (k y : Int32) : Int64 := match aX A with
  | none => 0
  | some X => if ¬ k = 0 ∧ okI k (aN A) = true ∧ okP y = true then (if y = 0 then (X k.toNatClampNeg).1 else (X k.toNatClampNeg).2) else 0
set_option maxHeartbeats 4000000 in
set_option maxRecDepth 20000 in
theorem c_X6_weight (l : Launch) (G : GT) (rg : RgT) (I : II) (L : LL) (A : AS) (x y : Int32) (hss : isSS rg) (hRC : RC A I L) (hok : aok A) : CtL l yX6_weight cX6_weight 3 (some FieldType.long) 8 G rg I L [.ref (gB G + 0), .int x, .int y] (fun r I1 L1 => r = weightR A x y ∧ I = I1 ∧ L = L1) := by
  refine ctL_of [some (.ref (gB G + 0)), some (.int x), some (.int y)] rfl (Nat.le_of_ble_eq_true rfl) (by decide) ?_
  intro p e s m args below meth c C hr
  obtain ⟨so1, so2, so3, so4, so5, so6, so7, so8, so9, so10, so11, so12⟩ := id hss
  obtain ⟨rN, rF, rP, rV, rT, rX, rx0, rXv, rE⟩ := id hRC
  obtain ⟨kN, kN4, kF, kT, kT0, kP⟩ := id hok
  refine j_aload_n C dX6_weight_0 rfl rfl ?_
  refine j_iload_n C dX6_weight_1 rfl rfl ?_
  refine g_cvI C vc_X6_148 (c_X6_isSquare l G rg _ _ A _ hss hRC hok) ⟨Nat.le_of_ble_eq_true rfl, Nat.le_of_ble_eq_true rfl⟩ (by assumption) rfl rfl (Nat.le_of_ble_eq_true rfl) ⟨Nat.zero_le _, Nat.zero_le _⟩ dX6_weight_2 (fun r_2 I_2 L_2 p_2 => ?_)
  obtain ⟨rfl, rfl, rfl⟩ := p_2
  first | refine n_if_eq (tgt := 15) C dX6_weight_5 (by decide) (fun h_5 => ?_) (fun h_5 => ?_) | refine j_if_eq (tgt := 15) C dX6_weight_5 (by decide) (fun h_5 => ?_) (fun h_5 => ?_)
  · refine j_lconst (v := 0) C dX6_weight_15 (by decide) ?_
    exact j_lret C hr dX6_weight_16 (⟨by unfold weightR; first | rw [if_neg (bff h_5)] | rw [if_neg (bff2 h_12)], rfl, rfl⟩)
  · refine j_iload_n C dX6_weight_8 rfl rfl ?_
    refine j_csI C sc_X6_151 (c_X6_isPart l G rg _ _ _) ⟨Nat.le_of_ble_eq_true rfl, Nat.le_of_ble_eq_true rfl⟩ rfl rfl (Nat.le_of_ble_eq_true rfl) ⟨Nat.zero_le _, Nat.zero_le _⟩ dX6_weight_9 (fun r_9 I_9 L_9 p_9 => ?_)
    obtain ⟨rfl, rfl, rfl⟩ := p_9
    first | refine n_if_ne (tgt := 17) C dX6_weight_12 (by decide) (fun h_12 => ?_) (fun h_12 => ?_) | refine j_if_ne (tgt := 17) C dX6_weight_12 (by decide) (fun h_12 => ?_) (fun h_12 => ?_)
    · obtain ⟨hx, h01, hsl, hs5⟩ := okS_t hok h_5
      obtain ⟨hRel, hM1⟩ := rE h01
      obtain ⟨hN, hS, hS5, hM, hLf, hSq⟩ := id hRel
      obtain ⟨hp1, hp2, hp3, hp4⟩ := hSq _ hsl
      obtain ⟨eo1, eo2, eo3, eo4, eo5, eo6, eo7, eo8, eo9⟩ := id so6
      have hsqr := eo9 x.toNatClampNeg (by omega)
      refine j_aload_n C dX6_weight_17 rfl rfl ?_
      refine g_getR C (by assumption) fl_X6_33 (by rfl) dX6_weight_18 ?_
      refine g_getR C (eo1) fl_X6_154 (by rfl) dX6_weight_21 ?_
      refine j_iload_n C dX6_weight_24 rfl rfl ?_
      refine t_i hx ?_
      refine g_aald4 C (eo4) (by omega) (by decide) (by rfl) (by omega) dX6_weight_25 ?_
      refine g_getR C (hsqr.1) fl_X6_158 (by rfl) dX6_weight_26 ?_
      refine j_iload_n C dX6_weight_29 rfl rfl ?_
      refine g_cvL C vc_X6_163 (c_X2_part l G rg _ _ _ _ hsqr.2.1) ⟨Nat.le_of_ble_eq_true rfl, Nat.le_of_ble_eq_true rfl⟩ (hsqr.2.1) rfl rfl (Nat.le_of_ble_eq_true rfl) ⟨Nat.zero_le _, Nat.zero_le _⟩ dX6_weight_30 (fun r_30 I_30 L_30 p_30 => ?_)
      obtain ⟨rfl, rfl, rfl⟩ := p_30
      exact j_lret C hr dX6_weight_33 (⟨wR_t h_5 h_12 (z := fr L ((32 + 39 + 8 * x.toNatClampNeg) + 1)) (by rw [← hp3]; congr 1; omega), rfl, rfl⟩)
    · refine j_lconst (v := 0) C dX6_weight_15 (by decide) ?_
      exact j_lret C hr dX6_weight_16 (⟨by unfold weightR; first | rw [if_neg (bff h_5)] | rw [if_neg (bff2 h_12)], rfl, rfl⟩)

set_option maxHeartbeats 4000000 in
set_option maxRecDepth 20000 in
theorem c_X6_line (l : Launch) (G : GT) (rg : RgT) (I : II) (L : LL) (A : AS) (x k y : Int32) (hss : isSS rg) (hRC : RC A I L) (hok : aok A) : CtL l yX6_line cX6_line 4 (some FieldType.long) 8 G rg I L [.ref (gB G + 0), .int x, .int k, .int y] (fun r I1 L1 => r = lineR A x k y ∧ I = I1 ∧ L = L1) := by
  refine ctL_of [some (.ref (gB G + 0)), some (.int x), some (.int k), some (.int y)] rfl (Nat.le_of_ble_eq_true rfl) (by decide) ?_
  intro p e s m args below meth c C hr
  obtain ⟨so1, so2, so3, so4, so5, so6, so7, so8, so9, so10, so11, so12⟩ := id hss
  obtain ⟨rN, rF, rP, rV, rT, rX, rx0, rXv, rE⟩ := id hRC
  obtain ⟨kN, kN4, kF, kT, kT0, kP⟩ := id hok
  refine j_aload_n C dX6_line_0 rfl rfl ?_
  refine j_iload_n C dX6_line_1 rfl rfl ?_
  refine g_cvI C vc_X6_148 (c_X6_isSquare l G rg _ _ A _ hss hRC hok) ⟨Nat.le_of_ble_eq_true rfl, Nat.le_of_ble_eq_true rfl⟩ (by assumption) rfl rfl (Nat.le_of_ble_eq_true rfl) ⟨Nat.zero_le _, Nat.zero_le _⟩ dX6_line_2 (fun r_2 I_2 L_2 p_2 => ?_)
  obtain ⟨rfl, rfl, rfl⟩ := p_2
  first | refine n_if_eq (tgt := 23) C dX6_line_5 (by decide) (fun h_5 => ?_) (fun h_5 => ?_) | refine j_if_eq (tgt := 23) C dX6_line_5 (by decide) (fun h_5 => ?_) (fun h_5 => ?_)
  · refine j_lconst (v := 0) C dX6_line_23 (by decide) ?_
    exact j_lret C hr dX6_line_24 (⟨by unfold lineR; first | rw [if_neg (bff h_5)] | rw [if_neg (bff3 h_13)] | rw [if_neg (bff4 h_20)], rfl, rfl⟩)
  · refine j_aload_n C dX6_line_8 rfl rfl ?_
    refine j_iload_n C dX6_line_9 rfl rfl ?_
    refine g_cvI C vc_X6_88 (c_X6_isIndex l G rg _ _ A _ hss hRC hok) ⟨Nat.le_of_ble_eq_true rfl, Nat.le_of_ble_eq_true rfl⟩ (by assumption) rfl rfl (Nat.le_of_ble_eq_true rfl) ⟨Nat.zero_le _, Nat.zero_le _⟩ dX6_line_10 (fun r_10 I_10 L_10 p_10 => ?_)
    obtain ⟨rfl, rfl, rfl⟩ := p_10
    first | refine n_if_eq (tgt := 23) C dX6_line_13 (by decide) (fun h_13 => ?_) (fun h_13 => ?_) | refine j_if_eq (tgt := 23) C dX6_line_13 (by decide) (fun h_13 => ?_) (fun h_13 => ?_)
    · refine j_lconst (v := 0) C dX6_line_23 (by decide) ?_
      exact j_lret C hr dX6_line_24 (⟨by unfold lineR; first | rw [if_neg (bff h_5)] | rw [if_neg (bff3 h_13)] | rw [if_neg (bff4 h_20)], rfl, rfl⟩)
    · refine j_iload_n C dX6_line_16 rfl rfl ?_
      refine j_csI C sc_X6_151 (c_X6_isPart l G rg _ _ _) ⟨Nat.le_of_ble_eq_true rfl, Nat.le_of_ble_eq_true rfl⟩ rfl rfl (Nat.le_of_ble_eq_true rfl) ⟨Nat.zero_le _, Nat.zero_le _⟩ dX6_line_17 (fun r_17 I_17 L_17 p_17 => ?_)
      obtain ⟨rfl, rfl, rfl⟩ := p_17
      first | refine n_if_ne (tgt := 25) C dX6_line_20 (by decide) (fun h_20 => ?_) (fun h_20 => ?_) | refine j_if_ne (tgt := 25) C dX6_line_20 (by decide) (fun h_20 => ?_) (fun h_20 => ?_)
      · obtain ⟨hx, h01, hsl, hs5⟩ := okS_t hok h_5
        obtain ⟨hRel, hM1⟩ := rE h01
        obtain ⟨hN, hS, hS5, hM, hLf, hSq⟩ := id hRel
        obtain ⟨hp1, hp2, hp3, hp4⟩ := hSq _ hsl
        obtain ⟨eo1, eo2, eo3, eo4, eo5, eo6, eo7, eo8, eo9⟩ := id so6
        have hsqr := eo9 x.toNatClampNeg (by omega)
        obtain ⟨hk, hkn⟩ := okI_t h_13
        refine j_aload_n C dX6_line_25 rfl rfl ?_
        refine g_getR C (by assumption) fl_X6_33 (by rfl) dX6_line_26 ?_
        refine g_getR C (eo1) fl_X6_154 (by rfl) dX6_line_29 ?_
        refine j_iload_n C dX6_line_32 rfl rfl ?_
        refine t_i hx ?_
        refine g_aald4 C (eo4) (by omega) (by decide) (by rfl) (by omega) dX6_line_33 ?_
        refine g_getR C (hsqr.1) fl_X6_167 (by rfl) dX6_line_34 ?_
        refine j_iload_n C dX6_line_37 rfl rfl ?_
        refine t_i hk ?_
        refine g_aald3 C (hsqr.2.2.1) (by omega) (by decide) (by rfl) (by omega) dX6_line_38 ?_
        refine j_iload_n C dX6_line_39 rfl rfl ?_
        have hFl : isF rg ((32 + 39 + 8 * x.toNatClampNeg) + 3 + k.toNatClampNeg) := hsqr.2.2.2 _ (by omega)
        refine g_cvL C vc_X6_163 (c_X2_part l G rg _ _ _ _ hFl) ⟨Nat.le_of_ble_eq_true rfl, Nat.le_of_ble_eq_true rfl⟩ (hFl) rfl rfl (Nat.le_of_ble_eq_true rfl) ⟨Nat.zero_le _, Nat.zero_le _⟩ dX6_line_40 (fun r_40 I_40 L_40 p_40 => ?_)
        obtain ⟨rfl, rfl, rfl⟩ := p_40
        exact j_lret C hr dX6_line_43 (⟨wL_t h_5 h_13 h_20 (z := fr L ((32 + 39 + 8 * x.toNatClampNeg) + 3 + k.toNatClampNeg)) (by rw [← hp4 k.toNatClampNeg (by omega)]; congr 1; omega), rfl, rfl⟩)
      · refine j_lconst (v := 0) C dX6_line_23 (by decide) ?_
        exact j_lret C hr dX6_line_24 (⟨by unfold lineR; first | rw [if_neg (bff h_5)] | rw [if_neg (bff3 h_13)] | rw [if_neg (bff4 h_20)], rfl, rfl⟩)

set_option maxHeartbeats 4000000 in
set_option maxRecDepth 20000 in
theorem c_X6_point (l : Launch) (G : GT) (rg : RgT) (I : II) (L : LL) (A : AS) (k y : Int32) (hss : isSS rg) (hRC : RC A I L) (hok : aok A) : CtL l yX6_point cX6_point 3 (some FieldType.long) 8 G rg I L [.ref (gB G + 0), .int k, .int y] (fun r I1 L1 => r = pointR A k y ∧ I = I1 ∧ L = L1) := by
  refine ctL_of [some (.ref (gB G + 0)), some (.int k), some (.int y)] rfl (Nat.le_of_ble_eq_true rfl) (by decide) ?_
  intro p e s m args below meth c C hr
  obtain ⟨so1, so2, so3, so4, so5, so6, so7, so8, so9, so10, so11, so12⟩ := id hss
  obtain ⟨rN, rF, rP, rV, rT, rX, rx0, rXv, rE⟩ := id hRC
  obtain ⟨kN, kN4, kF, kT, kT0, kP⟩ := id hok
  obtain ⟨po1, po2, po3, po4, po5⟩ := id so8
  refine j_aload_n C dX6_point_0 rfl rfl ?_
  refine g_getR C (by assumption) fl_X6_43 (by rfl) dX6_point_1 ?_
  refine g_getI C (po1) fl_X6_77 (by rfl) dX6_point_4 ?_
  refine t_i rX ?_
  first | refine n_if_eq (tgt := 29) C dX6_point_7 (by decide) (fun h_7 => ?_) (fun h_7 => ?_) | refine j_if_eq (tgt := 29) C dX6_point_7 (by decide) (fun h_7 => ?_) (fun h_7 => ?_)
  · refine j_lconst (v := 0) C dX6_point_29 (by decide) ?_
    exact j_lret C hr dX6_point_30 (⟨by unfold pointR; cases hX : aX A with | none => rfl | some X => first | (rw [hX] at h_7; cases h_7; done) | (show (0 : Int64) = if _ then _ else _; first | rw [if_neg (nff h_11)] | rw [if_neg (bff3 h_19)] | rw [if_neg (bff4 h_26)]), rfl, rfl⟩)
  · refine j_iload_n C dX6_point_10 rfl rfl ?_
    refine j_if_eq (tgt := 29) C dX6_point_11 (by decide) (fun h_11 => ?_) (fun h_11 => ?_)
    · refine j_lconst (v := 0) C dX6_point_29 (by decide) ?_
      exact j_lret C hr dX6_point_30 (⟨by unfold pointR; cases hX : aX A with | none => rfl | some X => first | (rw [hX] at h_7; cases h_7; done) | (show (0 : Int64) = if _ then _ else _; first | rw [if_neg (nff h_11)] | rw [if_neg (bff3 h_19)] | rw [if_neg (bff4 h_26)]), rfl, rfl⟩)
    · refine j_aload_n C dX6_point_14 rfl rfl ?_
      refine j_iload_n C dX6_point_15 rfl rfl ?_
      refine g_cvI C vc_X6_88 (c_X6_isIndex l G rg _ _ A _ hss hRC hok) ⟨Nat.le_of_ble_eq_true rfl, Nat.le_of_ble_eq_true rfl⟩ (by assumption) rfl rfl (Nat.le_of_ble_eq_true rfl) ⟨Nat.zero_le _, Nat.zero_le _⟩ dX6_point_16 (fun r_16 I_16 L_16 p_16 => ?_)
      obtain ⟨rfl, rfl, rfl⟩ := p_16
      first | refine n_if_eq (tgt := 29) C dX6_point_19 (by decide) (fun h_19 => ?_) (fun h_19 => ?_) | refine j_if_eq (tgt := 29) C dX6_point_19 (by decide) (fun h_19 => ?_) (fun h_19 => ?_)
      · refine j_lconst (v := 0) C dX6_point_29 (by decide) ?_
        exact j_lret C hr dX6_point_30 (⟨by unfold pointR; cases hX : aX A with | none => rfl | some X => first | (rw [hX] at h_7; cases h_7; done) | (show (0 : Int64) = if _ then _ else _; first | rw [if_neg (nff h_11)] | rw [if_neg (bff3 h_19)] | rw [if_neg (bff4 h_26)]), rfl, rfl⟩)
      · refine j_iload_n C dX6_point_22 rfl rfl ?_
        refine j_csI C sc_X6_151 (c_X6_isPart l G rg _ _ _) ⟨Nat.le_of_ble_eq_true rfl, Nat.le_of_ble_eq_true rfl⟩ rfl rfl (Nat.le_of_ble_eq_true rfl) ⟨Nat.zero_le _, Nat.zero_le _⟩ dX6_point_23 (fun r_23 I_23 L_23 p_23 => ?_)
        obtain ⟨rfl, rfl, rfl⟩ := p_23
        first | refine n_if_ne (tgt := 31) C dX6_point_26 (by decide) (fun h_26 => ?_) (fun h_26 => ?_) | refine j_if_ne (tgt := 31) C dX6_point_26 (by decide) (fun h_26 => ?_) (fun h_26 => ?_)
        · obtain ⟨hk, hkn⟩ := okI_t h_19
          obtain ⟨X, hX⟩ := Option.isSome_iff_exists.mp h_7
          have hk0 : k.toNatClampNeg ≠ 0 := fun q => h_11 (by rw [hk, q]; rfl)
          have hPX := rXv X hX _ (by omega) hkn
          refine j_aload_n C dX6_point_31 rfl rfl ?_
          refine g_getR C (by assumption) fl_X6_43 (by rfl) dX6_point_32 ?_
          refine g_getR C (po1) fl_X6_170 (by rfl) dX6_point_35 ?_
          refine j_iload_n C dX6_point_38 rfl rfl ?_
          refine t_i hk ?_
          refine g_aald3 C (po2) (by omega) (by decide) (by rfl) (by omega) dX6_point_39 ?_
          refine j_iload_n C dX6_point_40 rfl rfl ?_
          have hFl : isF rg (190 + 2 + k.toNatClampNeg) := po3 _ (by omega)
          refine g_cvL C vc_X6_163 (c_X2_part l G rg _ _ _ _ hFl) ⟨Nat.le_of_ble_eq_true rfl, Nat.le_of_ble_eq_true rfl⟩ (hFl) rfl rfl (Nat.le_of_ble_eq_true rfl) ⟨Nat.zero_le _, Nat.zero_le _⟩ dX6_point_41 (fun r_41 I_41 L_41 p_41 => ?_)
          obtain ⟨rfl, rfl, rfl⟩ := p_41
          exact j_lret C hr dX6_point_44 (⟨by unfold pointR; rw [hX]; exact wP_t h_11 h_19 h_26 (z := fr L (190 + 2 + k.toNatClampNeg)) hPX, rfl, rfl⟩)
        · refine j_lconst (v := 0) C dX6_point_29 (by decide) ?_
          exact j_lret C hr dX6_point_30 (⟨by unfold pointR; cases hX : aX A with | none => rfl | some X => first | (rw [hX] at h_7; cases h_7; done) | (show (0 : Int64) = if _ then _ else _; first | rw [if_neg (nff h_11)] | rw [if_neg (bff3 h_19)] | rw [if_neg (bff4 h_26)]), rfl, rfl⟩)
