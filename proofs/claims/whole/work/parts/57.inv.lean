/-! ===== what all calls keep ===== -/
def EPL (n : Nat) (E : ES) : Prop := ∀ j, j ≤ n → (eL E j = true ↔ ∀ s, s < eS E → eP E s ≠ j)
theorem pvO_P {n k : Nat} {E E' : ES} (h : pvO n E k = some E') : eP E' = va_up (eP E) (eS E) k := by
  unfold pvO at h
  by_cases hp : rwOk n E k ∧ lsOk n (midE E k) k
  · rw [cif_t hp] at h
    cases h
    rfl
  · rw [cif_f hp] at h
    cases h
theorem EPL_0 (n : Nat) (M : Nat → Nat → Fr) : EPL n (E0 n M) := fun j hj => ⟨fun _ s hs => absurd hs (Nat.not_lt_zero s), fun _ => decide_eq_true hj⟩
theorem EPL_s {n k : Nat} {E E' : ES} (h : EPL n E) (h2 : pvO n E k = some E') : EPL n E' := fun j hj => by
  rw [(pvO_L h2).1, (pvO_L h2).2, pvO_P h2]
  by_cases e : j = k
  · rw [e, va_up_self]
    refine ⟨(fun q => by cases q), fun q => absurd (va_up_self _ _ _) (q (eS E) (by omega))⟩
  · rw [va_up_ne _ _ e, h j hj]
    refine ⟨fun q s hs => ?_, fun q s hs => ?_⟩
    · by_cases es : s = eS E
      · rw [es, va_up_self]; exact fun z => e z.symm
      · rw [va_up_ne _ _ es]; exact q s (by omega)
    · have := q s (by omega)
      rw [va_up_ne _ _ (by omega)] at this
      exact this
theorem elim_EPL {n : Nat} : ∀ {f : Nat} {E : ES} {c k : Nat} {jo : Option Nat} {E' : ES}, EPL n E → elim n f E = (c, k, jo, E') → EPL n E'
  | 0, E, c, k, jo, E', h1, h => by cases h; exact h1
  | f + 1, E, c, k, jo, E', h1, h => by
    cases hf : ffo (isSg (-1) E) n (n + 1) with
    | some k1 => rw [elim_neg hf] at h; cases h; exact h1
    | none =>
      cases hp : ffo (isSg 1 E) n (n + 1) with
      | none =>
        cases hq : ffp (isPr E) n (n + 1) with
        | none => rw [elim_done hf hp hq] at h; cases h; exact h1
        | some w => obtain ⟨i, j⟩ := w; rw [elim_pair hf hp hq] at h; cases h; exact h1
      | some k2 =>
        cases hv : pvO n E k2 with
        | none => rw [elim_long hf hp hv] at h; cases h; exact h1
        | some E2 =>
          rw [elim_go hf hp hv] at h
          exact elim_EPL (EPL_s h1 hv) h
/-- a finished elimination -/
def EOk (n : Nat) (E : ES) : Prop := EW n E ∧ EI n E ∧ EPL n E
theorem EOk_el {n c k : Nat} {jo : Option Nat} {M : Nat → Nat → Fr} {E : ES} (hM : ∀ i j, i ≤ n → j ≤ n → WF (M i j)) (h : elim n (n + 1) (E0 n M) = (c, k, jo, E)) : EOk n E ∧ c ≤ 2 := by
  obtain ⟨h1, h2, _, h4⟩ := elim_EW (EW_0 hM) (EI_0 n M) h
  exact ⟨⟨h1, h2, elim_EPL (EPL_0 n M) h⟩, h4⟩
def inv (A : AS) : Prop := aok A ∧ (∃ c, c ≤ 2 ∧ aT A 0 = nI c) ∧ (aT A 0 = 1 → EPL (aN A) (aE A))
theorem inv_pl {A : AS} (h : inv A) : aT A 0 = 1 → (eL (aE A) 0 = true ↔ ∀ s, s < eS (aE A) → eP (aE A) s ≠ 0) := fun q => h.2.2 q 0 (Nat.zero_le _)
theorem inv_told {A : AS} {c : Nat} {E : ES} {X : Option (Nat → Fr)} {M : Nat → Nat → Fr} {f g u d t : Int32} (h : inv A) (hc : c ≤ 2) (hE : c = 1 → EOk (aN A) E) : inv (toldS A c E X M f g u d t) := by
  have c1 : nI c = 1 → c = 1 := fun q => nI_1eq q (by omega)
  refine ⟨⟨h.1.1, h.1.2.1, h.1.2.2.1, fun q => ?_, fun q => ?_, fun q => absurd (show aP A + 1 = 0 from q) (by omega)⟩, ⟨c, hc, rfl⟩, fun q => (hE (c1 q)).2.2⟩
  · have e := c1 q
    obtain ⟨h1, h2, _⟩ := hE e
    have hle : eS E ≤ aN A + 1 := by have := h2.2; omega
    refine ⟨h1, h2, ?_, ?_⟩
    · show (if c = 1 then nI (eS E) else 0) = nI (eS E)
      rw [if_pos e]
    · show eS E ≤ 5
      have := h.1.2.1
      omega
  · show (if c = 1 then nI (eS E) else 0) = 0
    rw [if_neg (fun e => q (by show nI c = 1; rw [e]; rfl))]
theorem inv_vars {A : AS} (h : inv A) (x : Int32) : inv (varsS A x) := by
  unfold varsS
  by_cases hx : x < 1 ∨ ¬ x ≤ 4
  · rw [if_pos hx]; exact h
  · rw [if_neg hx]
    have h1 : ¬ x < 1 := fun q => hx (Or.inl q)
    have h2 : x ≤ 4 := Classical.byContradiction fun q => hx (Or.inr q)
    obtain ⟨_, g1, g2⟩ := fin_x h1 (Int32.le_trans h2 (by decide))
    have g4 : x.toNatClampNeg ≤ 4 := by
      rw [Int32.lt_iff_toInt_lt, show (1 : Int32).toInt = 1 by decide] at h1
      rw [Int32.le_iff_toInt_le, show (4 : Int32).toInt = 4 by decide] at h2
      have := clampJ (show 0 ≤ x.toInt by omega)
      omega
    exact ⟨⟨g1, g4, Nat.zero_le _, fun q => absurd (show (0 : Int32) = 1 from q) (by decide), fun _ => rfl, fun _ => ⟨fun _ _ => rfl, rfl⟩⟩, ⟨0, by omega, rfl⟩, fun q => absurd (show (0 : Int32) = 1 from q) (by decide)⟩
theorem inv_form {A : AS} (h : inv A) : inv (formS A) := by
  unfold formS
  by_cases hx : aF A < 12
  · rw [if_pos hx]
    exact ⟨⟨h.1.1, h.1.2.1, hx, h.1.2.2.2.1, h.1.2.2.2.2.1, h.1.2.2.2.2.2⟩, h.2.1, h.2.2⟩
  · rw [if_neg hx]; exact h
theorem inv_term {A : AS} (h : inv A) (f i j v : Int32) : inv (termS A f i j v) := by
  unfold termS
  by_cases hx : termOk A f i j v
  · rw [cif_t hx]
    exact ⟨⟨h.1.1, h.1.2.1, h.1.2.2.1, h.1.2.2.2.1, h.1.2.2.2.2.1, h.1.2.2.2.2.2⟩, h.2.1, h.2.2⟩
  · rw [cif_f hx]; exact h
theorem prvO_ok {n : Nat} {f : Nat → Int32} {M : Nat → Nat → Fr} (hM : ∀ i j, i ≤ n → j ≤ n → WF (M i j)) : (prvO n f M).1 ≤ 2 ∧ ((prvO n f M).1 = 1 → EOk n (prvO n f M).2.1) := by
  unfold prvO
  obtain ⟨c, k, jo, E, h⟩ : ∃ c k jo E, elim n (n + 1) (E0 n M) = (c, k, jo, E) := ⟨_, _, _, _, rfl⟩
  obtain ⟨h1, h2⟩ := EOk_el hM h
  rw [h]
  by_cases hc : c = 0
  · subst hc
    cases hp : pfO n f k jo E with
    | none => rw [prvQ_b hp]; exact ⟨show (2 : Nat) ≤ 2 by decide, fun q => absurd (show (2 : Nat) = 1 from q) (by decide)⟩
    | some X => rw [prvQ_a hp]; exact ⟨show (0 : Nat) ≤ 2 by decide, fun q => absurd (show (0 : Nat) = 1 from q) (by decide)⟩
  · rw [prvQ_c hc]; exact ⟨h2, fun _ => h1⟩
theorem inv_prove {A : AS} (h : inv A) (x : Int32) : inv (proveS A x) := by
  unfold proveS
  by_cases hx : okF x (aF A) = true
  · rw [if_pos hx]
    have hq := prvO_ok (n := aN A) (f := aV A x.toNatClampNeg) (M := mxF A x.toNatClampNeg) (fun i j _ _ => hv_WF _ i j)
    exact inv_told h hq.1 hq.2
  · rw [if_neg hx]; exact h
theorem done_ok {n : Nat} {g c : Nat → Int32} {p q : Nat} {E : ES} {M : Nat → Nat → Fr} (h : doneO n g c p q = some (E, M)) : EOk n E := by
  unfold doneO at h
  by_cases hp : ∀ i j, i ≤ n → j ≤ n → tlO g c (lN p, lN q) i j ≠ none
  · rw [mtO_t hp] at h
    have h : dnO n (fun i j => (tlO g c (lN p, lN q) i j).getD (0, 1)) = some (E, M) := h
    unfold dnO at h
    by_cases h1 : (elim n (n + 1) (E0 n (fun i j => (tlO g c (lN p, lN q) i j).getD (0, 1)))).1 = 1
    · rw [if_pos h1] at h
      cases h
      refine (EOk_el (c := (elim n (n + 1) (E0 n (fun i j => (tlO g c (lN p, lN q) i j).getD (0, 1)))).1) (fun i j hi hj => ?_) rfl).1
      show WF ((tlO g c (lN p, lN q) i j).getD (0, 1))
      cases ht : tlO g c (lN p, lN q) i j with
      | none => exact absurd ht (hp i j hi hj)
      | some z => exact tlO_WF ht
    · rw [if_neg h1] at h; cases h
  · rw [show mtO n g c p q = none from cif_f hp] at h; cases h
theorem mfQ_ok {n : Nat} {g c : Nat → Int32} {s : Nat} : ∀ {k t p q : Nat} {E : ES} {M : Nat → Nat → Fr}, (mfQ n g c s k t).2 = some (p, q, E, M) → EOk n E
  | 0, t, p, q, E, M, h => by rw [mfQ] at h; cases h
  | k + 1, t, p, q, E, M, h => by
    rw [mfQ] at h
    by_cases hg : Nat.gcd k (s - k) = 1
    · rw [if_pos hg] at h
      cases hd : doneO n g c k (s - k) with
      | none => rw [hd] at h; exact mfQ_ok h
      | some w =>
        rw [hd] at h
        obtain ⟨E1, M1⟩ := w
        cases h
        exact done_ok hd
    · rw [if_neg hg] at h; exact mfQ_ok h
theorem mfS_ok {n : Nat} {g c : Nat → Int32} {fin : Nat} : ∀ {k t p q : Nat} {E : ES} {M : Nat → Nat → Fr}, (mfS n g c fin k t).2 = some (p, q, E, M) → EOk n E
  | 0, t, p, q, E, M, h => by rw [mfS] at h; cases h
  | k + 1, t, p, q, E, M, h => by
    rw [mfS] at h
    cases hd : (mfQ n g c (fin - k) (fin - k) t).2 with
    | none => rw [hd] at h; exact mfS_ok h
    | some w =>
      rw [hd] at h
      obtain ⟨p1, q1, E1, M1⟩ := w
      cases h
      exact mfQ_ok hd
theorem inv_under {A : AS} (h : inv A) (x y z : Int32) : inv (underS A x y z) := by
  unfold underS
  by_cases hx : unOk A x y z
  · rw [cif_t hx]
    have hq : (unW A x y z).1 ≤ 2 ∧ ((unW A x y z).1 = 1 → EOk (aN A) (unW A x y z).2.1) := by
      unfold unW
      cases hm : (unM A x y z).2 with
      | some w =>
        obtain ⟨p, q, E, M⟩ := w
        rw [unQ_1 hm]
        exact ⟨by show (1 : Nat) ≤ 2; decide, fun _ => mfS_ok hm⟩
      | none =>
        cases hw : wpO (aN A) (aV A x.toNatClampNeg) (aV A y.toNatClampNeg) (7 ^ aN A) 0 with
        | some t => rw [unQ_2 hm hw]; exact ⟨by show (0 : Nat) ≤ 2; decide, fun q => absurd (show (0 : Nat) = 1 from q) (by decide)⟩
        | none => rw [unQ_3 hm hw]; exact ⟨by show (2 : Nat) ≤ 2; decide, fun q => absurd (show (2 : Nat) = 1 from q) (by decide)⟩
    exact inv_told h hq.1 hq.2
  · rw [cif_f hx]; exact h
theorem inv_plant {A : AS} (h : inv A) (x : Int32) (u v : Int64) : inv (plantS A x u v) := by
  unfold plantS
  by_cases hx : okS A x = true ∧ ¬ v = 0 ∧ ¬ u = LEA ∧ ¬ v = LEA
  · rw [if_pos hx]
    refine ⟨⟨h.1.1, h.1.2.1, h.1.2.2.1, fun q => ?_, h.1.2.2.2.2.1, h.1.2.2.2.2.2⟩, h.2.1, h.2.2⟩
    obtain ⟨k1, k2, k3, k4⟩ := h.1.2.2.2.1 q
    refine ⟨⟨k1.1, fun s hs => ⟨(k1.2 s hs).1, ?_, (k1.2 s hs).2.2⟩⟩, k2, k3, k4⟩
    show WF (va_up (eW (aE A)) x.toNatClampNeg (red u v) s)
    by_cases e : s = x.toNatClampNeg
    · rw [e, va_up_self]; exact red_WF hx.2.2.1 hx.2.2.2 hx.2.1
    · rw [va_up_ne _ _ e]; exact (k1.2 s hs).2.1
  · rw [if_neg hx]; exact h
theorem inv_equal {A : AS} (h : inv A) : inv (equalS A) := by
  unfold equalS
  by_cases hx : aT A 0 = 1
  · rw [if_pos hx]
    exact ⟨⟨h.1.1, h.1.2.1, h.1.2.2.1, h.1.2.2.2.1, h.1.2.2.2.2.1, fun q => absurd ((h.1.2.2.2.2.2 q).1 0 (by decide)) (by rw [hx]; decide)⟩, h.2.1, h.2.2⟩
  · rw [if_neg hx]; exact h
theorem aP_told {A : AS} {c : Nat} {E : ES} {X : Option (Nat → Fr)} {M : Nat → Nat → Fr} {f g u d t : Int32} : aP (toldS A c E X M f g u d t) = aP A + 1 := rfl
theorem aP_prove {A : AS} (x : Int32) : aP (proveS A x) ≤ aP A + 1 := by
  unfold proveS
  by_cases hx : okF x (aF A) = true
  · rw [if_pos hx]; exact Nat.le_refl _
  · rw [if_neg hx]; exact Nat.le_succ _
theorem aP_under {A : AS} (x y z : Int32) : aP (underS A x y z) ≤ aP A + 1 := by
  unfold underS
  by_cases hx : unOk A x y z
  · rw [cif_t hx]; exact Nat.le_refl _
  · rw [cif_f hx]; exact Nat.le_succ _
theorem aP_vars {A : AS} (x : Int32) : aP (varsS A x) ≤ aP A + 1 := by
  unfold varsS
  by_cases hx : x < 1 ∨ ¬ x ≤ 4
  · rw [if_pos hx]; exact Nat.le_succ _
  · rw [if_neg hx]; exact Nat.zero_le _
theorem aP_form {A : AS} : aP (formS A) ≤ aP A + 1 := by
  unfold formS
  by_cases hx : aF A < 12
  · rw [if_pos hx]; exact Nat.le_succ _
  · rw [if_neg hx]; exact Nat.le_succ _
theorem aP_term {A : AS} (f i j v : Int32) : aP (termS A f i j v) ≤ aP A + 1 := by
  unfold termS
  by_cases hx : termOk A f i j v
  · rw [cif_t hx]; exact Nat.le_succ _
  · rw [cif_f hx]; exact Nat.le_succ _
theorem aP_plant {A : AS} (x : Int32) (u v : Int64) : aP (plantS A x u v) ≤ aP A + 1 := by
  unfold plantS
  by_cases hx : okS A x = true ∧ ¬ v = 0 ∧ ¬ u = LEA ∧ ¬ v = LEA
  · rw [if_pos hx]; exact Nat.le_succ _
  · rw [if_neg hx]; exact Nat.le_succ _
theorem aP_equal {A : AS} : aP (equalS A) ≤ aP A + 1 := by
  unfold equalS
  by_cases hx : aT A 0 = 1
  · rw [if_pos hx]; exact Nat.le_succ _
  · rw [if_neg hx]; exact Nat.le_succ _
/-- the state of a new object -/
def A0 : AS := (2, 0, 0, fun _ _ => 0, fun _ => 0, eD, mD, none)
theorem inv_0 : inv A0 := ⟨⟨by decide, by decide, by decide, fun q => absurd (show (0 : Int32) = 1 from q) (by decide), fun _ => rfl, fun _ => ⟨fun _ _ => rfl, rfl⟩⟩, ⟨0, by decide, rfl⟩, fun q => absurd (show (0 : Int32) = 1 from q) (by decide)⟩
theorem RC_0 {L : LL} (hX : fr L 192 = (1, 1)) : RC A0 (up2 (up2 (up2 (fun _ _ => 0) 32 9 (-1)) 111 9 (-1)) 0 10 (nI 2)) L := by
  refine ⟨by simp [up2_at]; rfl, by simp [up2_at]; rfl, by simp [up2_at]; rfl, fun f k hf hk => ?_, fun k hk => by simp [up2_at]; rfl, by simp [up2_at]; rfl, hX, (fun X h => by cases h), fun q => absurd (show (0 : Int32) = 1 from q) (by decide)⟩
  rw [up2_ne _ (by omega), up2_ne _ (by omega), up2_ne _ (by omega)]
  rfl
theorem RM_0 {L : LL} : RM A0 (up2 (up2 (fun _ _ => 0) 0 0 (nI 2)) 0 35 (-1)) L := by
  refine ⟨by simp [up2_at]; rfl, by simp [up2_at]; rfl, by simp [up2_at]; rfl, fun f k hf hk => by simp [up2_at]; rfl, by rw [if_pos (show aP A0 = 0 from rfl)]; simp [up2_at], by simp [up2_at]; rfl, fun q => absurd rfl q, by simp [up2_at]; rfl, by simp [up2_at]; rfl, ⟨false, by simp [up2_at]; rfl⟩, (fun X h => by cases h), fun q => absurd (show (0 : Int32) = 1 from q) (by decide)⟩
