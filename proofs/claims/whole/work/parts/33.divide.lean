/-! ===== the model: one pivot ===== -/
def midP (n : Nat) (E : ES) (k o : Nat) : ES := (eM E, va_up (eL E) k false, eS E + 1, va_up (eP E) (eS E) k, va_up (eW E) (eS E) (eM E k k), va_up (eN E) (eS E) (fun j => if (eL E j = true ∧ j ≠ k) ∧ posn n j < o then rwF E k j else sqI k j), va_up (eT E) (eS E) (fun j => (eL E j && decide (j ≠ k)) && decide (posn n j < o)))
theorem lf_up {E : ES} {k j : Nat} (h : va_up (eL E) k false j = true) : eL E j = true ∧ j ≠ k := by
  by_cases e : j = k
  · subst e; rw [va_up_self] at h; cases h
  · rw [va_up_ne _ _ e] at h; exact ⟨h, e⟩
theorem lf_dn {E : ES} {k j : Nat} (h : va_up (eL E) k false j = false) : ¬ (eL E j = true ∧ j ≠ k) := fun q => by
  rw [va_up_ne _ _ q.2, q.1] at h; cases h
theorem rwO_l {E : ES} {k j : Nat} (h : eL E j = true ∧ j ≠ k) : rwO E k j = fDiv (eM E k j) (eM E k k) := if_pos h
theorem rwO_n {E : ES} {k j : Nat} (h : ¬ (eL E j = true ∧ j ≠ k)) : rwO E k j = some (sqI k j) := if_neg h
/-- all of the first loop's cells, before it -/
theorem RelX_m0 {n k : Nat} {E : ES} {I I1 : II} {L L1 : LL} (hX : RelX n I L E) (hQ : MQm n L (eM E)) (hk : k ≤ n) (i8 : I1 8 = va_up (I 8) (eS E) (nI k)) (i7 : I1 7 = va_up (I 7) k (nI 0)) (i13 : I1 13 = va_up (I 13) (eS E) (nI 0)) (l9 : L1 9 = va_up (L 9) (eS E) (L 3 (6 * k))) (l10 : L1 10 = va_up (L 10) (eS E) (L 4 (6 * k))) (l11 : ∀ q, ¬ (5 * eS E ≤ q ∧ q < 5 * eS E + 5) → (L1 11 q, L1 12 q) = (L 11 q, L 12 q)) (lS : ∀ b, b < 5 → (L1 11 (5 * eS E + b), L1 12 (5 * eS E + b)) = sqI k b) : RelX n I1 L1 (midP n E k 0) := by
  refine ⟨fun j hj => ?_, fun s hs => ?_⟩
  · show I1 7 j = b2i (va_up (eL E) k false j)
    rw [i7]
    by_cases e : j = k
    · rw [e, va_up_self, va_up_self]; rfl
    · rw [va_up_ne _ _ e, va_up_ne _ _ e]; exact hX.1 j hj
  · have hs' : s < eS E + 1 := hs
    show I1 8 s = nI (va_up (eP E) (eS E) k s) ∧ (L1 9 s, L1 10 s) = va_up (eW E) (eS E) (eM E k k) s ∧ (∀ j, j < 5 → (L1 11 (5 * s + j), L1 12 (5 * s + j)) = va_up (eN E) (eS E) (fun j => if (eL E j = true ∧ j ≠ k) ∧ posn n j < 0 then rwF E k j else sqI k j) s j) ∧ ∀ j, j ≤ n → bt (I1 13 s) j = va_up (eT E) (eS E) (fun j => (eL E j && decide (j ≠ k)) && decide (posn n j < 0)) s j
    rw [i8, i13, l9, l10]
    by_cases e : s = eS E
    · subst e
      rw [va_up_self, va_up_self, va_up_self, va_up_self, va_up_self, va_up_self, va_up_self, va_up_self]
      refine ⟨rfl, ?_, fun j hj => ?_, fun j hj => ?_⟩
      · rw [show 6 * k = 5 * k + k by omega]; exact hQ k k hk hk
      · rw [if_neg (by omega)]; exact lS j hj
      · rw [decide_eq_false (show ¬ posn n j < 0 by omega), Bool.and_false]; exact bt_0 j
    · rw [va_up_ne _ _ e, va_up_ne _ _ e, va_up_ne _ _ e, va_up_ne _ _ e, va_up_ne _ _ e, va_up_ne _ _ e, va_up_ne _ _ e, va_up_ne _ _ e]
      obtain ⟨b1, b2, b3, b4⟩ := hX.2 s (by omega)
      exact ⟨b1, b2, fun j hj => by rw [l11 _ (by omega)]; exact b3 j hj, b4⟩
theorem posn_lt {n o j : Nat} (ho : o ≤ n) (hj : j ≤ n) (h : j ≠ ordn n o) : posn n j < o + 1 ↔ posn n j < o := by
  have : posn n j ≠ o := fun q => h (by rw [← q, ordn_posn hj])
  omega
/-- a number that isn't left changes nothing -/
theorem RelX_mn {n k o : Nat} {E : ES} {I1 : II} {L1 : LL} (h : RelX n I1 L1 (midP n E k o)) (ho : o ≤ n) (hE : ∀ j, n < j → eL E j = false) (hl : ¬ (eL E (ordn n o) = true ∧ ordn n o ≠ k)) : RelX n I1 L1 (midP n E k (o + 1)) := by
  have key : ∀ j, (eL E j = true ∧ j ≠ k) → (posn n j < o + 1 ↔ posn n j < o) := fun j q => by
    by_cases hj : j ≤ n
    · exact posn_lt ho hj (fun z => hl (by rw [← z]; exact q))
    · rw [hE j (by omega)] at q; cases q.1
  have e : midP n E k (o + 1) = midP n E k o := by
    unfold midP
    have e1 : (fun j => if (eL E j = true ∧ j ≠ k) ∧ posn n j < o + 1 then rwF E k j else sqI k j) = (fun j => if (eL E j = true ∧ j ≠ k) ∧ posn n j < o then rwF E k j else sqI k j) := by
      funext j
      by_cases q : eL E j = true ∧ j ≠ k
      · have := key j q
        by_cases z : posn n j < o
        · rw [if_pos ⟨q, this.mpr z⟩, if_pos ⟨q, z⟩]
        · rw [if_neg (fun w => z (this.mp w.2)), if_neg (fun w => z w.2)]
      · rw [if_neg (fun w => q w.1), if_neg (fun w => q w.1)]
    have e2 : (fun j => (eL E j && decide (j ≠ k)) && decide (posn n j < o + 1)) = (fun j => (eL E j && decide (j ≠ k)) && decide (posn n j < o)) := by
      funext j
      by_cases q : eL E j = true ∧ j ≠ k
      · congr 1; exact decide_eq_decide.mpr (key j q)
      · have : (eL E j && decide (j ≠ k)) = false := by
          rw [Bool.and_eq_false_iff]
          by_cases z : eL E j = true
          · right; exact decide_eq_false (fun w => q ⟨z, w⟩)
          · left; exact Bool.eq_false_iff.mpr z
        rw [this]; rfl
    rw [e1, e2]
  rw [e]; exact h
theorem RelX_ms {n k o : Nat} {E : ES} {I1 : II} {L1 : LL} {z : Fr} {w : Bool} (h : RelX n I1 L1 (midP n E k o)) (ho : o ≤ n) (hn : n < 5) (hE : ∀ j, n < j → eL E j = false) (hl : eL E (ordn n o) = true ∧ ordn n o ≠ k) (hz : rwO E k (ordn n o) = some z) : RelX n (setW (up2 I1 13 (eS E) (I1 13 (eS E) ||| (nI 1 <<< (nI (ordn n o) &&& 31)))) w) (up2 (up2 (setU L1 z) 11 (5 * eS E + ordn n o) z.1) 12 (5 * eS E + ordn n o) z.2) (midP n E k (o + 1)) := by
  have ho2 := ordn_le n o
  have hp := posn_ordn ho
  refine ⟨fun j hj => ?_, fun s hs => ?_⟩
  · rw [setW_q _ _ (by decide), up2_ne _ (by decide)]; exact h.1 j hj
  · obtain ⟨b1, b2, b3, b4⟩ := h.2 s hs
    rw [setW_q _ _ (by decide), setW_q _ _ (by decide), up2_ne _ (by decide), up2_ne _ (show (9 : Nat) ≠ 12 by decide), up2_ne _ (show (9 : Nat) ≠ 11 by decide), up2_ne _ (show (10 : Nat) ≠ 12 by decide), up2_ne _ (show (10 : Nat) ≠ 11 by decide), setU_q _ _ (by decide), setU_q _ _ (by decide)]
    have hL : ∀ q, (up2 (up2 (setU L1 z) 11 (5 * eS E + ordn n o) z.1) 12 (5 * eS E + ordn n o) z.2 11 q, up2 (up2 (setU L1 z) 11 (5 * eS E + ordn n o) z.1) 12 (5 * eS E + ordn n o) z.2 12 q) = if q = 5 * eS E + ordn n o then z else (L1 11 q, L1 12 q) := fun q => by
      rw [up2_ne _ (show (11 : Nat) ≠ 12 by decide), up2_at, up2_at, if_pos rfl, if_pos rfl, up2_ne _ (show (12 : Nat) ≠ 11 by decide), setU_q _ _ (by decide), setU_q _ _ (by decide)]
      by_cases e : q = 5 * eS E + ordn n o
      · rw [if_pos e, if_pos e, if_pos e]
      · rw [if_neg e, if_neg e, if_neg e]
    refine ⟨b1, b2, fun j hj => ?_, fun j hj => ?_⟩
    · rw [hL]
      show _ = va_up (eN E) (eS E) (fun j => if (eL E j = true ∧ j ≠ k) ∧ posn n j < o + 1 then rwF E k j else sqI k j) s j
      have b3' : (L1 11 (5 * s + j), L1 12 (5 * s + j)) = va_up (eN E) (eS E) (fun j => if (eL E j = true ∧ j ≠ k) ∧ posn n j < o then rwF E k j else sqI k j) s j := b3 j hj
      by_cases e : s = eS E
      · subst e
        rw [va_up_self] at b3' ⊢
        by_cases e2 : j = ordn n o
        · subst e2
          rw [if_pos rfl, if_pos ⟨hl, by omega⟩]; unfold rwF; rw [hz]; rfl
        · rw [if_neg (by omega), b3']
          by_cases q : eL E j = true ∧ j ≠ k
          · have hj2 : j ≤ n := by
              by_cases hj2 : j ≤ n
              · exact hj2
              · rw [hE j (by omega)] at q; cases q.1
            have := posn_lt ho hj2 e2
            by_cases y : posn n j < o
            · rw [if_pos ⟨q, y⟩, if_pos ⟨q, this.mpr y⟩]
            · rw [if_neg (fun x => y x.2), if_neg (fun x => y (this.mp x.2))]
          · rw [if_neg (fun x => q x.1), if_neg (fun x => q x.1)]
      · rw [if_neg (by omega), b3', va_up_ne _ _ e, va_up_ne _ _ e]
    · show bt (up2 I1 13 (eS E) _ 13 s) j = va_up (eT E) (eS E) (fun j => (eL E j && decide (j ≠ k)) && decide (posn n j < o + 1)) s j
      have b4' : bt (I1 13 s) j = va_up (eT E) (eS E) (fun j => (eL E j && decide (j ≠ k)) && decide (posn n j < o)) s j := b4 j hj
      rw [up2_at, if_pos rfl]
      by_cases e : s = eS E
      · subst e
        rw [va_up_self] at b4' ⊢
        rw [if_pos rfl, bt_or (by omega) (by omega), b4']
        by_cases e2 : j = ordn n o
        · subst e2
          rw [decide_eq_true rfl, Bool.or_true, hl.1, decide_eq_true hl.2, decide_eq_true (show posn n (ordn n o) < o + 1 by omega)]; rfl
        · rw [decide_eq_false e2, Bool.or_false]
          congr 1
          exact decide_eq_decide.mpr (posn_lt ho hj e2).symm
      · rw [if_neg e, va_up_ne _ _ e] ; rw [va_up_ne _ _ e] at b4'; exact b4'
theorem RelX_me {n k : Nat} {E : ES} {I1 : II} {L1 : LL} (h : RelX n I1 L1 (midP n E k (n + 1))) (hE : ∀ j, n < j → eL E j = false) : RelX n I1 L1 (midE E k) := by
  refine ⟨h.1, fun s hs => ?_⟩
  obtain ⟨b1, b2, b3, b4⟩ := h.2 s hs
  refine ⟨b1, b2, fun j hj => ?_, fun j hj => ?_⟩
  · rw [b3 j hj]
    show va_up (eN E) (eS E) _ s j = va_up (eN E) (eS E) (rwF E k) s j
    by_cases e : s = eS E
    · subst e
      rw [va_up_self, va_up_self]
      by_cases q : eL E j = true ∧ j ≠ k
      · have hj2 : j ≤ n := by
          by_cases hj2 : j ≤ n
          · exact hj2
          · rw [hE j (by omega)] at q; cases q.1
        rw [if_pos ⟨q, by have := posn_le hj2; omega⟩]
      · rw [if_neg (fun x => q x.1)]; unfold rwF; rw [rwO_n q]; rfl
    · rw [va_up_ne _ _ e, va_up_ne _ _ e]
  · rw [b4 j hj]
    show va_up (eT E) (eS E) _ s j = va_up (eT E) (eS E) (fun j => eL E j && decide (j ≠ k)) s j
    by_cases e : s = eS E
    · subst e
      rw [va_up_self, va_up_self, decide_eq_true (show posn n j < n + 1 by have := posn_le hj; omega), Bool.and_true]
    · rw [va_up_ne _ _ e, va_up_ne _ _ e]
/-- the model's matrix, while what is left is lessened -/
theorem NLs_M {n k : Nat} {E : ES} {L : LL} (h : MQm n L (eM E)) : NLs n k E 0 (vL 3 4 3 L) 0 0 := NLs_0 (fun i j hi hj => by rw [fr_v, Nat.mul_comm i 5]; exact h i j hi hj)
theorem NLs_v {n k : Nat} {E : ES} {L L4 : LL} {t w : Nat} {z : Fr} (h : NLs n k E 0 (vL 3 4 3 L) t w) (hn : n < 5) (htw : t ≤ w) (hw : w ≤ n) (hz : cpO E k (ordn n t) (ordn n w) = some z) (hl1 : eL E (ordn n t) = true) (hl2 : eL E (ordn n w) = true) (hq : ∀ q, (L4 3 q, L4 4 q) = if q = 5 * ordn n w + ordn n t ∨ q = 5 * ordn n t + ordn n w then z else (L 3 q, L 4 q)) : NLs n k E 0 (vL 3 4 3 L4) t (w + 1) := by
  refine NLs_s h hn htw hw hz ?_ ?_ (fun q hq0 h1 h2 => ?_) hl1 hl2
  · rw [fr_v, hq, if_pos (Or.inr (by omega))]
  · rw [fr_v, hq, if_pos (Or.inl (by omega))]
  · rw [fr_v, fr_v, hq, if_neg (by omega)]
theorem NLs_at {n k : Nat} {E : ES} {L : LL} {t w : Nat} (h : NLs n k E 0 (vL 3 4 3 L) t w) (htw : t ≤ w) (hw : w ≤ n) : (L 3 (5 * ordn n t + ordn n w), L 4 (5 * ordn n t + ordn n w)) = eM E (ordn n t) (ordn n w) := by
  have := (h (ordn n t) (ordn n w) (ordn_le _ _) (ordn_le _ _)).2 (fun q => by have q2 := q.2.2; rw [posn_ordn (by omega), posn_ordn hw] at q2; unfold prc at q2; omega)
  rw [fr_v, Nat.mul_comm _ 5] at this
  exact this
theorem NLs_k {n k : Nat} {E : ES} {L : LL} {t w i : Nat} (h : NLs n k E 0 (vL 3 4 3 L) t w) (hk : k ≤ n) (hi : i ≤ n) (hl : eL E k = false) : (L 3 (5 * i + k), L 4 (5 * i + k)) = eM E i k := by
  have := (h i k hi hk).2 (fun q => by rw [hl] at q; cases q.2.1)
  rw [fr_v, Nat.mul_comm _ 5] at this
  exact this
theorem NLs_fin {n k : Nat} {E : ES} {L : LL} (h : NLs n k E 0 (vL 3 4 3 L) (n + 1) (n + 1)) : lsOk n E k ∧ MQm n L (eM (lsE n E k)) := by
  have key : ∀ i j, i ≤ n → j ≤ n → eL E i = true → eL E j = true → nwO n E k i j = some (L 3 (5 * i + j), L 4 (5 * i + j)) := fun i j hi hj h1 h2 => by
    have := (h i j hi hj).1 h1 h2 (by have := posn_le hi; have := posn_le hj; unfold prc; omega)
    rw [fr_v, Nat.mul_comm _ 5] at this
    exact this
  refine ⟨(fun i j hi hj h1 h2 q => by rw [key i j hi hj h1 h2] at q; cases q), fun i j hi hj => ?_⟩
  show _ = if eL E i = true ∧ eL E j = true then (nwO n E k i j).getD (0, 1) else eM E i j
  by_cases q : eL E i = true ∧ eL E j = true
  · rw [if_pos q, key i j hi hj q.1 q.2]; rfl
  · rw [if_neg q]
    have := (h i j hi hj).2 (fun z => q ⟨z.1, z.2.1⟩)
    rw [fr_v, Nat.mul_comm _ 5] at this
    exact this
theorem pv_n1 {n k : Nat} {E : ES} (h : ∃ j, j ≤ n ∧ rwO E k j = none) : pvO n E k = none := by
  unfold pvO
  rw [cif_f]
  rintro ⟨h1, _⟩
  obtain ⟨j, hj, hq⟩ := h
  exact h1 j hj hq
theorem pv_n2 {n k i j : Nat} {E : ES} (hi : i ≤ n) (hj : j ≤ n) (h1 : eL (midE E k) i = true) (h2 : eL (midE E k) j = true) (h : nwO n (midE E k) k i j = none) : pvO n E k = none := by
  unfold pvO
  rw [cif_f]
  rintro ⟨_, h3⟩
  exact h3 i j hi hj h1 h2 h
theorem pv_ok {n k : Nat} {E : ES} (h1 : rwOk n E k) (h2 : lsOk n (midE E k) k) : pvO n E k = some (lsE n (midE E k) k) := cif_t ⟨h1, h2⟩
def DB (n k : Nat) (E : ES) (I : II) (L : LL) (I1 : II) (L1 : LL) (w : Bool) (o : Nat) : Prop := FM I I1 L L1 ∧ I1 0 7 = b2i w ∧ I1 0 14 = I 0 14 ∧ MQm n L1 (eM E) ∧ (w = false → RelX n I1 L1 (midP n E k o) ∧ ∀ t, t < o → rwO E k (ordn n t) ≠ none) ∧ (w = true → pvO n E k = none)
def DC (n k : Nat) (E : ES) (I : II) (L : LL) (I1 : II) (L1 : LL) (w : Bool) (t u : Nat) : Prop := FM I I1 L L1 ∧ I1 0 7 = b2i w ∧ I1 0 14 = I 0 14 ∧ (w = false → RelX n I1 L1 (midE E k) ∧ NLs n k (midE E k) 0 (vL 3 4 3 L1) t u ∧ rwOk n E k) ∧ (w = true → pvO n E k = none)
theorem DB_n {n k o : Nat} {E : ES} {I I1 : II} {L L1 : LL} (h : DB n k E I L I1 L1 false o) (ho : o ≤ n) (hE : ∀ j, n < j → eL E j = false) (hl : va_up (eL E) k false (ordn n o) = false) : DB n k E I L I1 L1 false (o + 1) := by
  obtain ⟨h1, h2, h3, h4, h5, h6⟩ := h
  obtain ⟨h7, h8⟩ := h5 rfl
  refine ⟨h1, h2, h3, h4, fun _ => ⟨RelX_mn h7 ho hE (lf_dn hl), fun t ht => ?_⟩, h6⟩
  by_cases e : t = o
  · rw [e, rwO_n (lf_dn hl)]; exact fun q => by cases q
  · exact h8 t (by omega)
theorem DB_fr {I I1 : II} {L L1 : LL} (h : FM I I1 L L1) {S q : Nat} {v : Int32} {w : Bool} {z : Fr} : FM I (setW (up2 I1 13 S v) w) L (up2 (up2 (setU L1 z) 11 q z.1) 12 q z.2) := ((((h.uI (by omega)).uW w).uU z).uL (by omega)).uL (by omega)
theorem DB_M {n q : Nat} {L1 : LL} {M : Nat → Nat → Fr} {z : Fr} (h : MQm n L1 M) : MQm n (up2 (up2 (setU L1 z) 11 q z.1) 12 q z.2) M := h.cong (by rw [up2_ne _ (by decide), up2_ne _ (by decide), setU_q _ _ (by decide)]) (by rw [up2_ne _ (by decide), up2_ne _ (by decide), setU_q _ _ (by decide)])
theorem DB_s {n k o : Nat} {E : ES} {I I1 : II} {L L1 : LL} {z : Fr} (h : DB n k E I L I1 L1 false o) (ho : o ≤ n) (hn : n < 5) (hE : ∀ j, n < j → eL E j = false) (hl : va_up (eL E) k false (ordn n o) = true) (hz : rwO E k (ordn n o) = some z) : DB n k E I L (setW (up2 I1 13 (eS E) (I1 13 (eS E) ||| (nI 1 <<< (nI (ordn n o) &&& 31)))) false) (up2 (up2 (setU L1 z) 11 (5 * eS E + ordn n o) z.1) 12 (5 * eS E + ordn n o) z.2) false (o + 1) := by
  obtain ⟨h1, h2, h3, h4, h5, h6⟩ := h
  obtain ⟨h7, h8⟩ := h5 rfl
  refine ⟨DB_fr h1, setW_7 _ _, by rw [setW_k _ _ (by decide), up2_ne _ (by decide)]; exact h3, DB_M h4, fun _ => ⟨RelX_ms h7 ho hn hE (lf_up hl) hz, fun t ht => ?_⟩, fun q => by cases q⟩
  by_cases e : t = o
  · rw [e, hz]; exact fun q => by cases q
  · exact h8 t (by omega)
theorem DB_x {n k o : Nat} {E : ES} {I I1 : II} {L L1 : LL} {z : Fr} {v : Int32} {q : Nat} (h : DB n k E I L I1 L1 false o) (hz : rwO E k (ordn n o) = none) : DB n k E I L (setW (up2 I1 13 (eS E) v) true) (up2 (up2 (setU L1 z) 11 q z.1) 12 q z.2) true (o + 1) := by
  obtain ⟨h1, h2, h3, h4, h5, h6⟩ := h
  exact ⟨DB_fr h1, setW_7 _ _, by rw [setW_k _ _ (by decide), up2_ne _ (by decide)]; exact h3, DB_M h4, (fun q => by cases q), fun _ => pv_n1 ⟨_, ordn_le n o, hz⟩⟩
theorem DB_C {n k o : Nat} {E : ES} {I I1 : II} {L L1 : LL} {w : Bool} (h : DB n k E I L I1 L1 w o) (hE : ∀ j, n < j → eL E j = false) (ho : w = true ∨ o = n + 1) : DC n k E I L I1 L1 w 0 0 := by
  obtain ⟨h1, h2, h3, h4, h5, h6⟩ := h
  refine ⟨h1, h2, h3, fun q => ?_, h6⟩
  obtain ⟨h7, h8⟩ := h5 q
  rcases ho with e | e
  · rw [e] at q; cases q
  · subst e
    refine ⟨RelX_me h7 hE, NLs_M h4, fun j hj => ?_⟩
    obtain ⟨t, ht, rfl⟩ := ordn_onto hj
    exact h8 t (by omega)
theorem DC_n {n k t u : Nat} {E : ES} {I I1 : II} {L L1 : LL} {w : Bool} (h : DC n k E I L I1 L1 w t u) (hu : w = true ∨ n < u) : DC n k E I L I1 L1 w (t + 1) (t + 1) := by
  obtain ⟨h1, h2, h3, h5, h6⟩ := h
  refine ⟨h1, h2, h3, fun q => ?_, h6⟩
  obtain ⟨h7, h8, h9⟩ := h5 q
  rcases hu with e | e
  · rw [e] at q; cases q
  · exact ⟨h7, NLs_n h8 e, h9⟩
theorem DC_k {n k t u : Nat} {E : ES} {I I1 : II} {L L1 : LL} (h : DC n k E I L I1 L1 false t u) (htu : t ≤ u) (hu : u ≤ n) (hl : ¬ (eL (midE E k) (ordn n t) = true ∧ eL (midE E k) (ordn n u) = true)) : DC n k E I L I1 L1 false t (u + 1) := by
  obtain ⟨h1, h2, h3, h5, h6⟩ := h
  obtain ⟨h7, h8, h9⟩ := h5 rfl
  exact ⟨h1, h2, h3, fun _ => ⟨h7, NLs_skip h8 htu hu hl, h9⟩, h6⟩
theorem mop_b {x : Option Fr} {f : Fr → Option Fr} : mop (mop false x).1 (f (mop false x).2) = mop false (x.bind f) := by cases x <;> rfl
theorem DC_fr {I I1 : II} {L L1 L2 : LL} (h : FM I I1 L L1) {w : Bool} {z : Fr} (h2 : ∀ q, q ≠ 3 → q ≠ 4 → L2 q = setU L1 z q) : FM I (setW I1 w) L L2 := ⟨(h.uW w).1, (h.uW w).2.1, fun q a b c d => by rw [h2 q b c, setU_q _ _ a]; exact h.2.2 q a b c d⟩
theorem DC_s {n k t u : Nat} {E : ES} {I I1 : II} {L L1 L2 : LL} {w : Bool} {z : Fr} (h : DC n k E I L I1 L1 false t u) (hn : n < 5) (htu : t ≤ u) (hu : u ≤ n) (hl1 : eL (midE E k) (ordn n t) = true) (hl2 : eL (midE E k) (ordn n u) = true) (he : (w, z) = mop false (cpO (midE E k) k (ordn n t) (ordn n u))) (h2 : ∀ q, q ≠ 3 → q ≠ 4 → L2 q = setU L1 z q) (hq : ∀ q, (L2 3 q, L2 4 q) = if q = 5 * ordn n u + ordn n t ∨ q = 5 * ordn n t + ordn n u then (setU L1 z 0 5, setU L1 z 0 6) else (setU L1 z 3 q, setU L1 z 4 q)) : DC n k E I L (setW I1 w) L2 w t (u + 1) := by
  obtain ⟨h1, h3, h4, h5, h6⟩ := h
  obtain ⟨h7, h8, h9⟩ := h5 rfl
  refine ⟨DC_fr h1 h2, setW_7 _ _, by rw [setW_k _ _ (by decide)]; exact h4, fun q => ?_, fun q => ?_⟩
  · cases hc : cpO (midE E k) k (ordn n t) (ordn n u) with
    | none => rw [hc, mop_n] at he; cases he; cases q
    | some y =>
      rw [hc, mop_s] at he; cases he
      refine ⟨h7.cong (setW_q _ _ (by decide)) (setW_q _ _ (by decide)) (setW_q _ _ (by decide)) (fun r r1 r2 => by rw [h2 r (by omega) (by omega), setU_q _ _ (by omega)]), NLs_v h8 hn htu hu hc hl1 hl2 (fun r => ?_), h9⟩
      rw [hq r, setU_5, setU_6, setU_q _ _ (by decide), setU_q _ _ (by decide)]
  · cases hc : cpO (midE E k) k (ordn n t) (ordn n u) with
    | none => exact pv_n2 (ordn_le _ _) (ordn_le _ _) hl1 hl2 (by rw [nwO_ord htu hu]; exact hc)
    | some y => rw [hc, mop_s] at he; cases he; cases q
theorem up_6 {L : LL} {z : Fr} {q : Nat} {v : Int64} : up2 (setU L z) 11 q v 0 6 = z.2 := by rw [up2_ne _ (by decide)]; exact setU_6 _ _
def LAi (E : ES) (k : Nat) (L L0 L1 : LL) (j : Nat) : Prop := (∀ q, q ≠ 11 → q ≠ 12 → L1 q = L0 q) ∧ (∀ q, ¬ (5 * eS E ≤ q ∧ q < 5 * eS E + 5) → (L1 11 q, L1 12 q) = (L 11 q, L 12 q)) ∧ ∀ b, b < j → (L1 11 (5 * eS E + b), L1 12 (5 * eS E + b)) = sqI k b
theorem LA_s {E : ES} {k j : Nat} {L L0 L1 : LL} {x : Int64} (h : LAi E k L L0 L1 j) (hj : j < 5) (hx : sqI k j = (x, 1)) : LAi E k L L0 (up2 (up2 L1 11 (5 * eS E + j) x) 12 (5 * eS E + j) 1) (j + 1) := by
  have hL : ∀ q, (up2 (up2 L1 11 (5 * eS E + j) x) 12 (5 * eS E + j) 1 11 q, up2 (up2 L1 11 (5 * eS E + j) x) 12 (5 * eS E + j) 1 12 q) = if q = 5 * eS E + j then (x, 1) else (L1 11 q, L1 12 q) := fun q => by
    rw [up2_ne _ (show (11 : Nat) ≠ 12 by decide), up2_at, up2_at, if_pos rfl, if_pos rfl, up2_ne _ (show (12 : Nat) ≠ 11 by decide)]
    by_cases e : q = 5 * eS E + j
    · rw [if_pos e, if_pos e, if_pos e]
    · rw [if_neg e, if_neg e, if_neg e]
  refine ⟨fun q a b => by rw [up2_ne _ b, up2_ne _ a]; exact h.1 q a b, fun q hq => ?_, fun b hb => ?_⟩
  · rw [hL, if_neg (by omega)]; exact h.2.1 q hq
  · rw [hL]
    by_cases e : b = j
    · subst e; rw [if_pos rfl, hx]
    · rw [if_neg (by omega)]; exact h.2.2 b (by omega)
theorem DB_0 {n k : Nat} {E : ES} {I : II} {L L1 : LL} (hX : RelX n I L E) (hQ : MQm n L (eM E)) (hk : k ≤ n) (hw : I 0 7 = b2i false) (hA : LAi E k L (up2 (up2 L 9 (eS E) (L 3 (6 * k))) 10 (eS E) (L 4 (6 * k))) L1 5) : DB n k E I L (up2 (up2 (up2 I 8 (eS E) (nI k)) 7 k (nI 0)) 13 (eS E) (nI 0)) L1 false 0 := by
  have hl : ∀ q, q ≠ 9 → q ≠ 10 → q ≠ 11 → q ≠ 12 → L1 q = L q := fun q a b c d => by rw [hA.1 q c d, up2_ne _ b, up2_ne _ a]
  refine ⟨⟨(((FM.rf (I := I) (L := L)).uI (by omega)).uI (by omega)).uI (by omega) |>.1, (((FM.rf (I := I) (L := L)).uI (by omega)).uI (by omega)).uI (by omega) |>.2.1, fun q a b c d => hl q (by omega) (by omega) (by omega) (by omega)⟩, ?_, ?_, hQ.cong (hl 3 (by decide) (by decide) (by decide) (by decide)) (hl 4 (by decide) (by decide) (by decide) (by decide)), fun _ => ⟨RelX_m0 hX hQ hk ?_ ?_ ?_ ?_ ?_ hA.2.1 hA.2.2, fun t ht => by omega⟩, fun q => by cases q⟩
  · rw [up2_ne _ (by decide), up2_ne _ (by decide), up2_ne _ (by decide)]; exact hw
  · rw [up2_ne _ (by decide), up2_ne _ (by decide), up2_ne _ (by decide)]
  · rw [up2_ne _ (by decide), up2_ne _ (by decide)]; unfold up2; rw [va_up_self]
  · rw [up2_ne _ (by decide)]; unfold up2; rw [va_up_self, va_up_ne _ _ (by decide)]
  · unfold up2; rw [va_up_self, va_up_ne _ _ (by decide), va_up_ne _ _ (by decide)]
  · rw [hA.1 9 (by decide) (by decide), up2_ne _ (by decide)]; unfold up2; rw [va_up_self]
  · rw [hA.1 10 (by decide) (by decide)]; unfold up2; rw [va_up_self, va_up_ne _ _ (by decide)]

theorem mop_W {x : Option Fr} (h : ∀ z, x = some z → WF z) (q : (mop false x).1 = false) : WF (mop false x).2 := by
  cases x with
  | none => cases q
  | some z => exact h z rfl
theorem dv_end {n k t : Nat} {E : ES} {I I1 : II} {L L1 : LL} {w : Bool} {v : Int32} (hC : DC n k E I L I1 L1 w t t) (q : w = false) (hd : w = true ∨ n < t) (ht : t ≤ n + 1) : ∃ E1, pvO n E k = some E1 ∧ RelX n (up2 I1 0 14 v) L1 E1 ∧ MQm n L1 (eM E1) := by
  obtain ⟨h1, h2, h3, h5, h6⟩ := hC
  obtain ⟨h7, h8, h9⟩ := h5 q
  rcases hd with e | e
  · rw [e] at q; cases q
  · have e1 : t = n + 1 := by omega
    subst e1
    obtain ⟨h10, h11⟩ := NLs_fin h8
    exact ⟨_, pv_ok h9 h10, RelX.cong (E := lsE n (midE E k) k) ⟨h7.1, h7.2⟩ (up2_ne _ (by decide)) (up2_ne _ (by decide)) (up2_ne _ (by decide)) (fun _ _ _ => rfl), h11⟩
set_option maxHeartbeats 4000000 in
set_option maxRecDepth 20000 in
theorem c_X7_divide (l : Launch) (G : GT) (rg : RgT) (I : II) (L : LL) (n k : Nat) (E : ES) (hms : isMS rg) (hn : I 0 0 = nI n) (hn4 : n < 5) (hw : I 0 7 = b2i false) (h8 : I 0 8 = b2i false) (hS : I 0 14 = nI (eS E)) (hS5 : eS E < 5) (hX : RelX n I L E) (hQ : MQm n L (eM E)) (hk : k ≤ n) (hWF : ∀ i j, i ≤ n → j ≤ n → WF (eM E i j)) (hkk : ¬ (eM E k k).1 = 0) (hE : ∀ j, n < j → eL E j = false) : CtV l yX7_divide cX7_divide 7 none 4 G rg I L [.ref (gB G + 0), .int (nI k)] (fun I1 L1 => FM I I1 L L1 ∧ I1 0 14 = nI (eS E + 1) ∧ ∃ w, I1 0 7 = b2i w ∧ (w = false → ∃ E1, pvO n E k = some E1 ∧ RelX n I1 L1 E1 ∧ MQm n L1 (eM E1)) ∧ (w = true → pvO n E k = none)) := by
  refine ctV_of [some (.ref (gB G + 0)), some (.int (nI k)), none, none, none, none, none] rfl (Nat.le_of_ble_eq_true rfl) (by decide) ?_
  intro p e s m args below meth c C hr
  obtain ⟨o0, a1, a2, a3, a4, a5, a6, a7, a8, a9, a10, a11, a12, a13, a14, a15, a16, a17, a18, a19, a20, a21, a22, a23, a24, a25, a26⟩ := id hms
  have lc : ∀ (fuel : Nat) (t : Nat) (w : Bool) (I1 : II) (L1 : LL), n + 1 < fuel + t → t ≤ n + 1 → DC n k E I L I1 L1 w t t → J p l e (rmD 4) s m args below meth c (MQ below (QV G rg (fun I1 L1 => FM I I1 L L1 ∧ I1 0 14 = nI (eS E + 1) ∧ ∃ w, I1 0 7 = b2i w ∧ (w = false → ∃ E1, pvO n E k = some E1 ∧ RelX n I1 L1 E1 ∧ MQm n L1 (eM E1)) ∧ (w = true → pvO n E k = none))) args s 0 0 (rg_A G rg)) 7 G rg 0 0 I1 L1 223 [some (.ref (gB G + 0)), some (.int (nI k)), some (.int (nI (eS E))), some (.int (nI t)), none, none, none] [] := by
    intro fuel
    induction fuel with
    | zero => intro t w I1 L1 q1 q2 hC; exfalso; omega
    | succ fuel ih_lc =>
      intro t w I1 L1 q1 q2 hC
      refine j_iload_n C dX7_divide_223 rfl rfl ?_
      refine j_aload_n C dX7_divide_224 rfl rfl ?_
      refine g_getI C (o0) fl_X7_7 (by rfl) dX7_divide_225 ?_
      refine t_i (y := nI n) ((hC.1.2.1 0 (by decide) (by decide) (by decide) (by decide) (by decide)).trans hn) ?_
      first | refine n_icmp_gt (tgt := 396) C (by omega) (by omega) dX7_divide_228 (by decide) (fun h_228 => ?_) (fun h_228 => ?_) | refine j_icmp_gt (tgt := 396) C dX7_divide_228 (by decide) (fun h_228 => ?_) (fun h_228 => ?_)
      · have hdone : w = true ∨ n < t := by first | exact Or.inl h_235 | exact Or.inr (by omega)
        refine j_aload_n C dX7_divide_396 rfl rfl ?_
        refine j_dup C dX7_divide_397 rfl ?_
        refine g_getI C (o0) fl_X7_109 (by rfl) dX7_divide_398 ?_
        refine t_i (y := nI (eS E)) (hC.2.2.1.trans hS) ?_
        refine j_iconst (v := nI 1) C dX7_divide_401 (by decide) ?_
        first | refine n_iadd C dX7_divide_402 ?_ | refine j_iadd C dX7_divide_402 ?_
        refine g_putI C (o0) fw_X7_109 (by rfl) rfl (fits_int _) dX7_divide_403 ?_
        exact j_vret C hr dX7_divide_406 (⟨hC.1.u0 (by omega), by rw [up2_at]; simp, w, by rw [up2_at]; simp; exact hC.2.1, fun q => dv_end hC q hdone (by omega), hC.2.2.2.2⟩)
      · refine j_aload_n C dX7_divide_231 rfl rfl ?_
        refine g_cvI C vc_X7_154 (c_X7_isWrong l G rg _ _ w hms hC.2.1 ((hC.1.2.1 8 (by decide) (by decide) (by decide) (by decide) (by decide)).trans h8)) ⟨Nat.le_of_ble_eq_true rfl, Nat.le_of_ble_eq_true rfl⟩ (o0) rfl rfl (Nat.le_of_ble_eq_true rfl) ⟨Nat.zero_le _, Nat.zero_le _⟩ dX7_divide_232 (fun r_232 I_232 L_232 p_232 => ?_)
        obtain ⟨rfl, rfl, rfl⟩ := p_232
        first | refine n_if_ne (tgt := 396) C dX7_divide_235 (by decide) (fun h_235 => ?_) (fun h_235 => ?_) | refine j_if_ne (tgt := 396) C dX7_divide_235 (by decide) (fun h_235 => ?_) (fun h_235 => ?_)
        · have hdone : w = true ∨ n < t := by first | exact Or.inl h_235 | exact Or.inr (by omega)
          refine j_aload_n C dX7_divide_396 rfl rfl ?_
          refine j_dup C dX7_divide_397 rfl ?_
          refine g_getI C (o0) fl_X7_109 (by rfl) dX7_divide_398 ?_
          refine t_i (y := nI (eS E)) (hC.2.2.1.trans hS) ?_
          refine j_iconst (v := nI 1) C dX7_divide_401 (by decide) ?_
          first | refine n_iadd C dX7_divide_402 ?_ | refine j_iadd C dX7_divide_402 ?_
          refine g_putI C (o0) fw_X7_109 (by rfl) rfl (fits_int _) dX7_divide_403 ?_
          exact j_vret C hr dX7_divide_406 (⟨hC.1.u0 (by omega), by rw [up2_at]; simp, w, by rw [up2_at]; simp; exact hC.2.1, fun q => dv_end hC q hdone (by omega), hC.2.2.2.2⟩)
        · refine j_iload_n C dX7_divide_238 rfl rfl ?_
          refine j_istore C dX7_divide_239 (by decide) ?_
          have ld : ∀ (fuel : Nat) (u : Nat) (w : Bool) (I1 : II) (L1 : LL), n + 1 < fuel + u → t ≤ u → u ≤ n + 1 → DC n k E I L I1 L1 w t u → J p l e (rmD 4) s m args below meth c (MQ below (QV G rg (fun I1 L1 => FM I I1 L L1 ∧ I1 0 14 = nI (eS E + 1) ∧ ∃ w, I1 0 7 = b2i w ∧ (w = false → ∃ E1, pvO n E k = some E1 ∧ RelX n I1 L1 E1 ∧ MQm n L1 (eM E1)) ∧ (w = true → pvO n E k = none))) args s 0 0 (rg_A G rg)) 7 G rg 0 0 I1 L1 241 [some (.ref (gB G + 0)), some (.int (nI k)), some (.int (nI (eS E))), some (.int (nI t)), some (.int (nI u)), none, none] [] := by
            intro fuel
            induction fuel with
            | zero => intro u w I1 L1 q1 q2 q3 hC; exfalso; omega
            | succ fuel ih_ld =>
              intro u w I1 L1 q1 q2 q3 hC
              refine j_iload C dX7_divide_241 rfl ?_
              refine j_aload_n C dX7_divide_243 rfl rfl ?_
              refine g_getI C (o0) fl_X7_7 (by rfl) dX7_divide_244 ?_
              refine t_i (y := nI n) ((hC.1.2.1 0 (by decide) (by decide) (by decide) (by decide) (by decide)).trans hn) ?_
              first | refine n_icmp_gt (tgt := 390) C (by omega) (by omega) dX7_divide_247 (by decide) (fun h_247 => ?_) (fun h_247 => ?_) | refine j_icmp_gt (tgt := 390) C dX7_divide_247 (by decide) (fun h_247 => ?_) (fun h_247 => ?_)
              · first | refine n_iinc (n := 1) C dX7_divide_390 rfl (by decide) ?_ | refine j_iinc C dX7_divide_390 rfl rfl (by decide) ?_
                refine j_goto (tgt := 223) C dX7_divide_393 (by decide) ?_
                refine j_rm 4 ?_
                first
                | exact ih_lc (t + 1) w I1 L1 (by omega) (by omega) (DC_n hC (Or.inr (by omega)))
                | exact ih_lc (t + 1) w I1 L1 (by omega) (by omega) (DC_n hC (Or.inl h_254))
              · refine j_aload_n C dX7_divide_250 rfl rfl ?_
                refine g_cvI C vc_X7_154 (c_X7_isWrong l G rg _ _ w hms hC.2.1 ((hC.1.2.1 8 (by decide) (by decide) (by decide) (by decide) (by decide)).trans h8)) ⟨Nat.le_of_ble_eq_true rfl, Nat.le_of_ble_eq_true rfl⟩ (o0) rfl rfl (Nat.le_of_ble_eq_true rfl) ⟨Nat.zero_le _, Nat.zero_le _⟩ dX7_divide_251 (fun r_251 I_251 L_251 p_251 => ?_)
                obtain ⟨rfl, rfl, rfl⟩ := p_251
                first | refine n_if_ne (tgt := 390) C dX7_divide_254 (by decide) (fun h_254 => ?_) (fun h_254 => ?_) | refine j_if_ne (tgt := 390) C dX7_divide_254 (by decide) (fun h_254 => ?_) (fun h_254 => ?_)
                · first | refine n_iinc (n := 1) C dX7_divide_390 rfl (by decide) ?_ | refine j_iinc C dX7_divide_390 rfl rfl (by decide) ?_
                  refine j_goto (tgt := 223) C dX7_divide_393 (by decide) ?_
                  refine j_rm 4 ?_
                  first
                  | exact ih_lc (t + 1) w I1 L1 (by omega) (by omega) (DC_n hC (Or.inr (by omega)))
                  | exact ih_lc (t + 1) w I1 L1 (by omega) (by omega) (DC_n hC (Or.inl h_254))
                · refine j_aload_n C dX7_divide_257 rfl rfl ?_
                  refine j_iload_n C dX7_divide_258 rfl rfl ?_
                  refine g_cvI C vc_X7_171 (c_X7_inOrder l G rg _ _ n _ hms ((hC.1.2.1 0 (by decide) (by decide) (by decide) (by decide) (by decide)).trans hn) hn4 (by omega)) ⟨Nat.le_of_ble_eq_true rfl, Nat.le_of_ble_eq_true rfl⟩ (o0) rfl rfl (Nat.le_of_ble_eq_true rfl) ⟨Nat.zero_le _, Nat.zero_le _⟩ dX7_divide_259 (fun r_259 I_259 L_259 p_259 => ?_)
                  obtain ⟨rfl, rfl, rfl⟩ := p_259
                  refine j_istore C dX7_divide_262 (by decide) ?_
                  refine j_aload_n C dX7_divide_264 rfl rfl ?_
                  refine j_iload C dX7_divide_265 rfl ?_
                  refine g_cvI C vc_X7_171 (c_X7_inOrder l G rg _ _ n _ hms ((hC.1.2.1 0 (by decide) (by decide) (by decide) (by decide) (by decide)).trans hn) hn4 (by omega)) ⟨Nat.le_of_ble_eq_true rfl, Nat.le_of_ble_eq_true rfl⟩ (o0) rfl rfl (Nat.le_of_ble_eq_true rfl) ⟨Nat.zero_le _, Nat.zero_le _⟩ dX7_divide_267 (fun r_267 I_267 L_267 p_267 => ?_)
                  obtain ⟨rfl, rfl, rfl⟩ := p_267
                  subst h_254
                  have hi := ordn_le n t
                  have hj := ordn_le n u
                  obtain ⟨hRX, hNL, hRo⟩ := hC.2.2.2.1 rfl
                  have hkl : eL (midE E k) k = false := va_up_self _ _ _
                  have hLn : (L1 11 (5 * eS E + ordn n u), L1 12 (5 * eS E + ordn n u)) = eN (midE E k) (eS E) (ordn n u) := (hRX.2 (eS E) (Nat.lt_succ_self _)).2.2.1 _ (by omega)
                  have hWn : WF (eN (midE E k) (eS E) (ordn n u)) := by show WF (va_up (eN E) (eS E) (rwF E k) (eS E) (ordn n u)); rw [va_up_self]; exact rwF_WF (n := n) (hRo _ hj)
                  refine j_istore C dX7_divide_270 (by decide) ?_
                  refine j_aload_n C dX7_divide_272 rfl rfl ?_
                  refine g_getR C (o0) fl_X7_33 (by rfl) dX7_divide_273 ?_
                  refine j_iload C dX7_divide_276 rfl ?_
                  refine g_zald C (a7) (by omega) (by decide) dX7_divide_278 ?_
                  refine t_i (hRX.1 _ hi) ?_
                  first | refine n_if_eq (tgt := 384) C dX7_divide_279 (by decide) (fun h_279 => ?_) (fun h_279 => ?_) | refine j_if_eq (tgt := 384) C dX7_divide_279 (by decide) (fun h_279 => ?_) (fun h_279 => ?_)
                  · first | refine n_iinc (n := 1) C dX7_divide_384 rfl (by decide) ?_ | refine j_iinc C dX7_divide_384 rfl rfl (by decide) ?_
                    refine j_goto (tgt := 241) C dX7_divide_387 (by decide) ?_
                    try refine j_rm 6 ?_
                    try refine j_rm 5 ?_
                    first
                    | exact ih_ld (u + 1) false _ _ (by omega) (by omega) (by omega) (DC_k hC (by omega) (by omega) (fun q => by rw [show eL (midE E k) (ordn n t) = false from h_279] at q; cases q.1))
                    | exact ih_ld (u + 1) false _ _ (by omega) (by omega) (by omega) (DC_k hC (by omega) (by omega) (fun q => by rw [show eL (midE E k) (ordn n u) = false from h_289] at q; cases q.2))
                    | exact ih_ld (u + 1) x2.1 _ _ (by omega) (by omega) (by omega) (DC_s hC hn4 (by omega) (by omega) h_279 h_289 hx3 e3 e4)
                  · refine j_aload_n C dX7_divide_282 rfl rfl ?_
                    refine g_getR C (o0) fl_X7_33 (by rfl) dX7_divide_283 ?_
                    refine j_iload C dX7_divide_286 rfl ?_
                    refine g_zald C (a7) (by omega) (by decide) dX7_divide_288 ?_
                    refine t_i (hRX.1 _ hj) ?_
                    first | refine n_if_eq (tgt := 384) C dX7_divide_289 (by decide) (fun h_289 => ?_) (fun h_289 => ?_) | refine j_if_eq (tgt := 384) C dX7_divide_289 (by decide) (fun h_289 => ?_) (fun h_289 => ?_)
                    · first | refine n_iinc (n := 1) C dX7_divide_384 rfl (by decide) ?_ | refine j_iinc C dX7_divide_384 rfl rfl (by decide) ?_
                      refine j_goto (tgt := 241) C dX7_divide_387 (by decide) ?_
                      try refine j_rm 6 ?_
                      try refine j_rm 5 ?_
                      first
                      | exact ih_ld (u + 1) false _ _ (by omega) (by omega) (by omega) (DC_k hC (by omega) (by omega) (fun q => by rw [show eL (midE E k) (ordn n t) = false from h_279] at q; cases q.1))
                      | exact ih_ld (u + 1) false _ _ (by omega) (by omega) (by omega) (DC_k hC (by omega) (by omega) (fun q => by rw [show eL (midE E k) (ordn n u) = false from h_289] at q; cases q.2))
                      | exact ih_ld (u + 1) x2.1 _ _ (by omega) (by omega) (by omega) (DC_s hC hn4 (by omega) (by omega) h_279 h_289 hx3 e3 e4)
                    · refine j_aload_n C dX7_divide_292 rfl rfl ?_
                      refine j_aload_n C dX7_divide_293 rfl rfl ?_
                      refine g_getR C (o0) fl_X7_20 (by rfl) dX7_divide_294 ?_
                      refine j_iconst (v := nI 5) C dX7_divide_297 (by decide) ?_
                      refine j_iload C dX7_divide_298 rfl ?_
                      first | refine n_imul C dX7_divide_300 ?_ | refine j_imul C dX7_divide_300 ?_
                      refine j_iload_n C dX7_divide_301 rfl rfl ?_
                      first | refine n_iadd C dX7_divide_302 ?_ | refine j_iadd C dX7_divide_302 ?_
                      refine g_lald C (a3) (by omega) (by decide) dX7_divide_303 ?_
                      refine t_l (congrArg Prod.fst (NLs_k hNL hk hi hkl)) ?_
                      refine j_aload_n C dX7_divide_304 rfl rfl ?_
                      refine g_getR C (o0) fl_X7_24 (by rfl) dX7_divide_305 ?_
                      refine j_iconst (v := nI 5) C dX7_divide_308 (by decide) ?_
                      refine j_iload C dX7_divide_309 rfl ?_
                      first | refine n_imul C dX7_divide_311 ?_ | refine j_imul C dX7_divide_311 ?_
                      refine j_iload_n C dX7_divide_312 rfl rfl ?_
                      first | refine n_iadd C dX7_divide_313 ?_ | refine j_iadd C dX7_divide_313 ?_
                      refine g_lald C (a4) (by omega) (by decide) dX7_divide_314 ?_
                      refine t_l (congrArg Prod.snd (NLs_k hNL hk hi hkl)) ?_
                      refine j_aload_n C dX7_divide_315 rfl rfl ?_
                      refine g_getR C (o0) fl_X7_46 (by rfl) dX7_divide_316 ?_
                      refine j_iconst (v := nI 5) C dX7_divide_319 (by decide) ?_
                      refine j_iload_n C dX7_divide_320 rfl rfl ?_
                      first | refine n_imul C dX7_divide_321 ?_ | refine j_imul C dX7_divide_321 ?_
                      refine j_iload C dX7_divide_322 rfl ?_
                      first | refine n_iadd C dX7_divide_324 ?_ | refine j_iadd C dX7_divide_324 ?_
                      refine g_lald C (a11) (by omega) (by decide) dX7_divide_325 ?_
                      refine t_l (congrArg Prod.fst hLn) ?_
                      refine j_aload_n C dX7_divide_326 rfl rfl ?_
                      refine g_getR C (o0) fl_X7_49 (by rfl) dX7_divide_327 ?_
                      refine j_iconst (v := nI 5) C dX7_divide_330 (by decide) ?_
                      refine j_iload_n C dX7_divide_331 rfl rfl ?_
                      first | refine n_imul C dX7_divide_332 ?_ | refine j_imul C dX7_divide_332 ?_
                      refine j_iload C dX7_divide_333 rfl ?_
                      first | refine n_iadd C dX7_divide_335 ?_ | refine j_iadd C dX7_divide_335 ?_
                      refine g_lald C (a12) (by omega) (by decide) dX7_divide_336 ?_
                      refine t_l (congrArg Prod.snd hLn) ?_
                      refine g_cvV C vc_X7_179 (c_X7_product l G rg _ _ false _ _ _ _ hms hC.2.1 ((hC.1.2.1 8 (by decide) (by decide) (by decide) (by decide) (by decide)).trans h8) (fun _ => hWF _ k hi hk) (fun _ => hWn)) ⟨Nat.le_of_ble_eq_true rfl, Nat.le_of_ble_eq_true rfl⟩ (o0) rfl rfl (Nat.le_of_ble_eq_true rfl) ⟨Nat.zero_le _, Nat.zero_le _⟩ dX7_divide_337 (fun I_337 L_337 p_337 => ?_)
                      obtain ⟨e1, e2⟩ := p_337
                      subst e1
                      subst e2
                      obtain ⟨x1, hx1⟩ : ∃ x, x = mop false (fMul (eM (midE E k) (ordn n t) k) (eN (midE E k) (eS E) (ordn n u))) := ⟨_, rfl⟩
                      refine t_IL (I1 := setW I1 x1.1) (L1 := setU L1 x1.2) (by rw [hx1]; rfl) (by rw [hx1]; rfl) ?_
                      have hxW : x1.1 = false → WF x1.2 := fun q => by rw [hx1] at q ⊢; exact mop_W (fun _ z => fMul_WF z) q
                      refine j_aload_n C dX7_divide_340 rfl rfl ?_
                      refine j_aload_n C dX7_divide_341 rfl rfl ?_
                      refine g_getR C (o0) fl_X7_20 (by rfl) dX7_divide_342 ?_
                      refine j_iconst (v := nI 5) C dX7_divide_345 (by decide) ?_
                      refine j_iload C dX7_divide_346 rfl ?_
                      first | refine n_imul C dX7_divide_348 ?_ | refine j_imul C dX7_divide_348 ?_
                      refine j_iload C dX7_divide_349 rfl ?_
                      first | refine n_iadd C dX7_divide_351 ?_ | refine j_iadd C dX7_divide_351 ?_
                      refine g_lald C (a3) (by omega) (by decide) dX7_divide_352 ?_
                      refine t_l ((congrFun (setU_q _ _ (by decide)) _).trans (congrArg Prod.fst (NLs_at hNL (by omega) (by omega)))) ?_
                      refine j_aload_n C dX7_divide_353 rfl rfl ?_
                      refine g_getR C (o0) fl_X7_24 (by rfl) dX7_divide_354 ?_
                      refine j_iconst (v := nI 5) C dX7_divide_357 (by decide) ?_
                      refine j_iload C dX7_divide_358 rfl ?_
                      first | refine n_imul C dX7_divide_360 ?_ | refine j_imul C dX7_divide_360 ?_
                      refine j_iload C dX7_divide_361 rfl ?_
                      first | refine n_iadd C dX7_divide_363 ?_ | refine j_iadd C dX7_divide_363 ?_
                      refine g_lald C (a4) (by omega) (by decide) dX7_divide_364 ?_
                      refine t_l ((congrFun (setU_q _ _ (by decide)) _).trans (congrArg Prod.snd (NLs_at hNL (by omega) (by omega)))) ?_
                      refine j_aload_n C dX7_divide_365 rfl rfl ?_
                      refine g_getL C (o0) fl_X7_147 (by rfl) dX7_divide_366 ?_
                      refine t_l (setU_5 _ _) ?_
                      refine j_aload_n C dX7_divide_369 rfl rfl ?_
                      refine g_getL C (o0) fl_X7_151 (by rfl) dX7_divide_370 ?_
                      refine t_l (setU_6 _ _) ?_
                      refine g_cvV C vc_X7_182 (c_X7_difference l G rg _ _ x1.1 _ _ _ _ hms (setW_7 _ _) ((setW_k _ _ (by decide)).trans ((hC.1.2.1 8 (by decide) (by decide) (by decide) (by decide) (by decide)).trans h8)) (fun _ => hWF _ _ hi hj) hxW) ⟨Nat.le_of_ble_eq_true rfl, Nat.le_of_ble_eq_true rfl⟩ (o0) rfl rfl (Nat.le_of_ble_eq_true rfl) ⟨Nat.zero_le _, Nat.zero_le _⟩ dX7_divide_373 (fun I_373 L_373 p_373 => ?_)
                      obtain ⟨e1, e2⟩ := p_373
                      rw [setW_2] at e1
                      rw [setU_2] at e2
                      obtain ⟨x2, hx2⟩ : ∃ x, x = mop x1.1 (fSub (eM (midE E k) (ordn n t) (ordn n u)) x1.2) := ⟨_, rfl⟩
                      change setW I1 (mop x1.1 (fSub (eM (midE E k) (ordn n t) (ordn n u)) x1.2)).1 = I_373 at e1
                      change setU L1 (mop x1.1 (fSub (eM (midE E k) (ordn n t) (ordn n u)) x1.2)).2 = L_373 at e2
                      rw [← hx2] at e1 e2
                      subst e1
                      subst e2
                      have hx3 : (x2.1, x2.2) = mop false (cpO (midE E k) k (ordn n t) (ordn n u)) := by show x2 = _; rw [hx2, hx1]; exact mop_b
                      refine j_aload_n C dX7_divide_376 rfl rfl ?_
                      refine j_iload C dX7_divide_377 rfl ?_
                      refine j_iload C dX7_divide_379 rfl ?_
                      refine g_cvV C vc_X7_185 (c_X7_into l G rg _ _ _ _ hms (by omega) (by omega)) ⟨Nat.le_of_ble_eq_true rfl, Nat.le_of_ble_eq_true rfl⟩ (o0) rfl rfl (Nat.le_of_ble_eq_true rfl) ⟨Nat.zero_le _, Nat.zero_le _⟩ dX7_divide_381 (fun I_381 L_381 p_381 => ?_)
                      obtain ⟨rfl, e3, e4⟩ := p_381
                      first | refine n_iinc (n := 1) C dX7_divide_384 rfl (by decide) ?_ | refine j_iinc C dX7_divide_384 rfl rfl (by decide) ?_
                      refine j_goto (tgt := 241) C dX7_divide_387 (by decide) ?_
                      try refine j_rm 6 ?_
                      try refine j_rm 5 ?_
                      first
                      | exact ih_ld (u + 1) false _ _ (by omega) (by omega) (by omega) (DC_k hC (by omega) (by omega) (fun q => by rw [show eL (midE E k) (ordn n t) = false from h_279] at q; cases q.1))
                      | exact ih_ld (u + 1) false _ _ (by omega) (by omega) (by omega) (DC_k hC (by omega) (by omega) (fun q => by rw [show eL (midE E k) (ordn n u) = false from h_289] at q; cases q.2))
                      | exact ih_ld (u + 1) x2.1 _ _ (by omega) (by omega) (by omega) (DC_s hC hn4 (by omega) (by omega) h_279 h_289 hx3 e3 e4)
          exact ld (n + 2) t w I1 L1 (by omega) (by omega) (by omega) hC
  have lb : ∀ (fuel : Nat) (o : Nat) (w : Bool) (I1 : II) (L1 : LL), n + 1 < fuel + o → o ≤ n + 1 → DB n k E I L I1 L1 w o → J p l e (rmD 4) s m args below meth c (MQ below (QV G rg (fun I1 L1 => FM I I1 L L1 ∧ I1 0 14 = nI (eS E + 1) ∧ ∃ w, I1 0 7 = b2i w ∧ (w = false → ∃ E1, pvO n E k = some E1 ∧ RelX n I1 L1 E1 ∧ MQm n L1 (eM E1)) ∧ (w = true → pvO n E k = none))) args s 0 0 (rg_A G rg)) 7 G rg 0 0 I1 L1 102 [some (.ref (gB G + 0)), some (.int (nI k)), some (.int (nI (eS E))), some (.int (nI o)), none, none, none] [] := by
    intro fuel
    induction fuel with
    | zero => intro o w I1 L1 q1 q2 hB; exfalso; omega
    | succ fuel ih_lb =>
      intro o w I1 L1 q1 q2 hB
      refine j_iload_n C dX7_divide_102 rfl rfl ?_
      refine j_aload_n C dX7_divide_103 rfl rfl ?_
      refine g_getI C (o0) fl_X7_7 (by rfl) dX7_divide_104 ?_
      refine t_i (y := nI n) ((hB.1.2.1 0 (by decide) (by decide) (by decide) (by decide) (by decide)).trans hn) ?_
      first | refine n_icmp_gt (tgt := 221) C (by omega) (by omega) dX7_divide_107 (by decide) (fun h_107 => ?_) (fun h_107 => ?_) | refine j_icmp_gt (tgt := 221) C dX7_divide_107 (by decide) (fun h_107 => ?_) (fun h_107 => ?_)
      · refine j_iconst (v := nI 0) C dX7_divide_221 (by decide) ?_
        refine j_istore_n C dX7_divide_222 rfl (by decide) ?_
        first
        | exact lc (n + 2) 0 w I1 L1 (by omega) (by omega) (DB_C hB hE (Or.inr (by omega)))
        | exact lc (n + 2) 0 w I1 L1 (by omega) (by omega) (DB_C hB hE (Or.inl h_114))
      · refine j_aload_n C dX7_divide_110 rfl rfl ?_
        refine g_cvI C vc_X7_154 (c_X7_isWrong l G rg _ _ w hms hB.2.1 ((hB.1.2.1 8 (by decide) (by decide) (by decide) (by decide) (by decide)).trans h8)) ⟨Nat.le_of_ble_eq_true rfl, Nat.le_of_ble_eq_true rfl⟩ (o0) rfl rfl (Nat.le_of_ble_eq_true rfl) ⟨Nat.zero_le _, Nat.zero_le _⟩ dX7_divide_111 (fun r_111 I_111 L_111 p_111 => ?_)
        obtain ⟨rfl, rfl, rfl⟩ := p_111
        first | refine n_if_ne (tgt := 221) C dX7_divide_114 (by decide) (fun h_114 => ?_) (fun h_114 => ?_) | refine j_if_ne (tgt := 221) C dX7_divide_114 (by decide) (fun h_114 => ?_) (fun h_114 => ?_)
        · refine j_iconst (v := nI 0) C dX7_divide_221 (by decide) ?_
          refine j_istore_n C dX7_divide_222 rfl (by decide) ?_
          first
          | exact lc (n + 2) 0 w I1 L1 (by omega) (by omega) (DB_C hB hE (Or.inr (by omega)))
          | exact lc (n + 2) 0 w I1 L1 (by omega) (by omega) (DB_C hB hE (Or.inl h_114))
        · refine j_aload_n C dX7_divide_117 rfl rfl ?_
          refine j_iload_n C dX7_divide_118 rfl rfl ?_
          refine g_cvI C vc_X7_171 (c_X7_inOrder l G rg _ _ n _ hms ((hB.1.2.1 0 (by decide) (by decide) (by decide) (by decide) (by decide)).trans hn) hn4 (by omega)) ⟨Nat.le_of_ble_eq_true rfl, Nat.le_of_ble_eq_true rfl⟩ (o0) rfl rfl (Nat.le_of_ble_eq_true rfl) ⟨Nat.zero_le _, Nat.zero_le _⟩ dX7_divide_119 (fun r_119 I_119 L_119 p_119 => ?_)
          obtain ⟨rfl, rfl, rfl⟩ := p_119
          subst h_114
          have hj := ordn_le n o
          obtain ⟨hRX, hRo⟩ := hB.2.2.2.2.1 rfl
          have hWt : (L1 9 (eS E), L1 10 (eS E)) = eM E k k := ((hRX.2 (eS E) (Nat.lt_succ_self _)).2.1).trans (va_up_self _ _ _)
          refine j_istore C dX7_divide_122 (by decide) ?_
          refine j_aload_n C dX7_divide_124 rfl rfl ?_
          refine g_getR C (o0) fl_X7_33 (by rfl) dX7_divide_125 ?_
          refine j_iload C dX7_divide_128 rfl ?_
          refine g_zald C (a7) (by omega) (by decide) dX7_divide_130 ?_
          refine t_i (hRX.1 _ hj) ?_
          first | refine n_if_eq (tgt := 215) C dX7_divide_131 (by decide) (fun h_131 => ?_) (fun h_131 => ?_) | refine j_if_eq (tgt := 215) C dX7_divide_131 (by decide) (fun h_131 => ?_) (fun h_131 => ?_)
          · first | refine n_iinc (n := 1) C dX7_divide_215 rfl (by decide) ?_ | refine j_iinc C dX7_divide_215 rfl rfl (by decide) ?_
            refine j_goto (tgt := 102) C dX7_divide_218 (by decide) ?_
            try refine j_rm 4 ?_
            first
            | exact ih_lb (o + 1) false _ _ (by omega) (by omega) (DB_n hB (by omega) hE h_131)
            | exact ih_lb (o + 1) false _ _ (by omega) (by omega) (DB_s hB (by omega) hn4 hE h_131 hz)
            | exact ih_lb (o + 1) true _ _ (by omega) (by omega) (DB_x hB hz)
          · refine j_aload_n C dX7_divide_134 rfl rfl ?_
            refine g_getR C (o0) fl_X7_52 (by rfl) dX7_divide_135 ?_
            refine j_iload_n C dX7_divide_138 rfl rfl ?_
            refine j_dup2 C dX7_divide_139 rfl rfl ?_
            refine g_iald C (a13) (by omega) (by decide) dX7_divide_140 ?_
            refine j_iconst (v := nI 1) C dX7_divide_141 (by decide) ?_
            refine j_iload C dX7_divide_142 rfl ?_
            refine j_ishl C dX7_divide_144 ?_
            refine j_ior C dX7_divide_145 ?_
            refine g_iast C (a13) (by omega) (by decide) dX7_divide_146 ?_
            refine j_aload_n C dX7_divide_147 rfl rfl ?_
            refine j_aload_n C dX7_divide_148 rfl rfl ?_
            refine g_getR C (o0) fl_X7_20 (by rfl) dX7_divide_149 ?_
            refine j_iconst (v := nI 5) C dX7_divide_152 (by decide) ?_
            refine j_iload_n C dX7_divide_153 rfl rfl ?_
            first | refine n_imul C dX7_divide_154 ?_ | refine j_imul C dX7_divide_154 ?_
            refine j_iload C dX7_divide_155 rfl ?_
            first | refine n_iadd C dX7_divide_157 ?_ | refine j_iadd C dX7_divide_157 ?_
            refine g_lald C (a3) (by omega) (by decide) dX7_divide_158 ?_
            refine t_l (congrArg Prod.fst (hB.2.2.2.1 k _ hk hj)) ?_
            refine j_aload_n C dX7_divide_159 rfl rfl ?_
            refine g_getR C (o0) fl_X7_24 (by rfl) dX7_divide_160 ?_
            refine j_iconst (v := nI 5) C dX7_divide_163 (by decide) ?_
            refine j_iload_n C dX7_divide_164 rfl rfl ?_
            first | refine n_imul C dX7_divide_165 ?_ | refine j_imul C dX7_divide_165 ?_
            refine j_iload C dX7_divide_166 rfl ?_
            first | refine n_iadd C dX7_divide_168 ?_ | refine j_iadd C dX7_divide_168 ?_
            refine g_lald C (a4) (by omega) (by decide) dX7_divide_169 ?_
            refine t_l (congrArg Prod.snd (hB.2.2.2.1 k _ hk hj)) ?_
            refine j_aload_n C dX7_divide_170 rfl rfl ?_
            refine g_getR C (o0) fl_X7_40 (by rfl) dX7_divide_171 ?_
            refine j_iload_n C dX7_divide_174 rfl rfl ?_
            refine g_lald C (a9) (by omega) (by decide) dX7_divide_175 ?_
            refine t_l (congrArg Prod.fst hWt) ?_
            refine j_aload_n C dX7_divide_176 rfl rfl ?_
            refine g_getR C (o0) fl_X7_43 (by rfl) dX7_divide_177 ?_
            refine j_iload_n C dX7_divide_180 rfl rfl ?_
            refine g_lald C (a10) (by omega) (by decide) dX7_divide_181 ?_
            refine t_l (congrArg Prod.snd hWt) ?_
            refine g_cvV C vc_X7_175 (c_X7_quotient l G rg _ _ false _ _ _ _ hms (by rw [up2_ne _ (by decide)]; exact hB.2.1) (by rw [up2_ne _ (by decide)]; exact ((hB.1.2.1 8 (by decide) (by decide) (by decide) (by decide) (by decide)).trans h8)) (fun _ => hWF k _ hk hj) (fun _ => hWF k k hk hk) (fun _ => hkk)) ⟨Nat.le_of_ble_eq_true rfl, Nat.le_of_ble_eq_true rfl⟩ (o0) rfl rfl (Nat.le_of_ble_eq_true rfl) ⟨Nat.zero_le _, Nat.zero_le _⟩ dX7_divide_182 (fun I_182 L_182 p_182 => ?_)
            obtain ⟨e1, e2⟩ := p_182
            change setW _ (mop false (fDiv (eM E k (ordn n o)) (eM E k k))).1 = I_182 at e1
            change setU _ (mop false (fDiv (eM E k (ordn n o)) (eM E k k))).2 = L_182 at e2
            rw [← rwO_l (lf_up h_131)] at e1 e2
            cases hz : rwO E k (ordn n o)
            · rw [hz, mop_n] at e1 e2
              subst e1
              subst e2
              refine j_aload_n C dX7_divide_185 rfl rfl ?_
              refine g_getR C (o0) fl_X7_46 (by rfl) dX7_divide_186 ?_
              refine j_iconst (v := nI 5) C dX7_divide_189 (by decide) ?_
              refine j_iload_n C dX7_divide_190 rfl rfl ?_
              first | refine n_imul C dX7_divide_191 ?_ | refine j_imul C dX7_divide_191 ?_
              refine j_iload C dX7_divide_192 rfl ?_
              first | refine n_iadd C dX7_divide_194 ?_ | refine j_iadd C dX7_divide_194 ?_
              refine j_aload_n C dX7_divide_195 rfl rfl ?_
              refine g_getL C (o0) fl_X7_147 (by rfl) dX7_divide_196 ?_
              refine t_l (setU_5 _ _) ?_
              refine g_last C (a11) (by omega) (by decide) dX7_divide_199 ?_
              refine j_aload_n C dX7_divide_200 rfl rfl ?_
              refine g_getR C (o0) fl_X7_49 (by rfl) dX7_divide_201 ?_
              refine j_iconst (v := nI 5) C dX7_divide_204 (by decide) ?_
              refine j_iload_n C dX7_divide_205 rfl rfl ?_
              first | refine n_imul C dX7_divide_206 ?_ | refine j_imul C dX7_divide_206 ?_
              refine j_iload C dX7_divide_207 rfl ?_
              first | refine n_iadd C dX7_divide_209 ?_ | refine j_iadd C dX7_divide_209 ?_
              refine j_aload_n C dX7_divide_210 rfl rfl ?_
              refine g_getL C (o0) fl_X7_151 (by rfl) dX7_divide_211 ?_
              refine t_l up_6 ?_
              refine g_last C (a12) (by omega) (by decide) dX7_divide_214 ?_
              first | refine n_iinc (n := 1) C dX7_divide_215 rfl (by decide) ?_ | refine j_iinc C dX7_divide_215 rfl rfl (by decide) ?_
              refine j_goto (tgt := 102) C dX7_divide_218 (by decide) ?_
              try refine j_rm 4 ?_
              first
              | exact ih_lb (o + 1) false _ _ (by omega) (by omega) (DB_n hB (by omega) hE h_131)
              | exact ih_lb (o + 1) false _ _ (by omega) (by omega) (DB_s hB (by omega) hn4 hE h_131 hz)
              | exact ih_lb (o + 1) true _ _ (by omega) (by omega) (DB_x hB hz)
            · rename_i z
              rw [hz, mop_s] at e1 e2
              subst e1
              subst e2
              refine j_aload_n C dX7_divide_185 rfl rfl ?_
              refine g_getR C (o0) fl_X7_46 (by rfl) dX7_divide_186 ?_
              refine j_iconst (v := nI 5) C dX7_divide_189 (by decide) ?_
              refine j_iload_n C dX7_divide_190 rfl rfl ?_
              first | refine n_imul C dX7_divide_191 ?_ | refine j_imul C dX7_divide_191 ?_
              refine j_iload C dX7_divide_192 rfl ?_
              first | refine n_iadd C dX7_divide_194 ?_ | refine j_iadd C dX7_divide_194 ?_
              refine j_aload_n C dX7_divide_195 rfl rfl ?_
              refine g_getL C (o0) fl_X7_147 (by rfl) dX7_divide_196 ?_
              refine t_l (setU_5 _ _) ?_
              refine g_last C (a11) (by omega) (by decide) dX7_divide_199 ?_
              refine j_aload_n C dX7_divide_200 rfl rfl ?_
              refine g_getR C (o0) fl_X7_49 (by rfl) dX7_divide_201 ?_
              refine j_iconst (v := nI 5) C dX7_divide_204 (by decide) ?_
              refine j_iload_n C dX7_divide_205 rfl rfl ?_
              first | refine n_imul C dX7_divide_206 ?_ | refine j_imul C dX7_divide_206 ?_
              refine j_iload C dX7_divide_207 rfl ?_
              first | refine n_iadd C dX7_divide_209 ?_ | refine j_iadd C dX7_divide_209 ?_
              refine j_aload_n C dX7_divide_210 rfl rfl ?_
              refine g_getL C (o0) fl_X7_151 (by rfl) dX7_divide_211 ?_
              refine t_l up_6 ?_
              refine g_last C (a12) (by omega) (by decide) dX7_divide_214 ?_
              first | refine n_iinc (n := 1) C dX7_divide_215 rfl (by decide) ?_ | refine j_iinc C dX7_divide_215 rfl rfl (by decide) ?_
              refine j_goto (tgt := 102) C dX7_divide_218 (by decide) ?_
              try refine j_rm 4 ?_
              first
              | exact ih_lb (o + 1) false _ _ (by omega) (by omega) (DB_n hB (by omega) hE h_131)
              | exact ih_lb (o + 1) false _ _ (by omega) (by omega) (DB_s hB (by omega) hn4 hE h_131 hz)
              | exact ih_lb (o + 1) true _ _ (by omega) (by omega) (DB_x hB hz)
  have la : ∀ (fuel : Nat) (j : Nat) (L1 : LL), 5 < fuel + j → j ≤ 5 → LAi E k L (up2 (up2 L 9 (eS E) (L 3 (6 * k))) 10 (eS E) (L 4 (6 * k))) L1 j → J p l e (rmD 4) s m args below meth c (MQ below (QV G rg (fun I1 L1 => FM I I1 L L1 ∧ I1 0 14 = nI (eS E + 1) ∧ ∃ w, I1 0 7 = b2i w ∧ (w = false → ∃ E1, pvO n E k = some E1 ∧ RelX n I1 L1 E1 ∧ MQm n L1 (eM E1)) ∧ (w = true → pvO n E k = none))) args s 0 0 (rg_A G rg)) 7 G rg 0 0 (up2 (up2 (up2 I 8 (eS E) (nI k)) 7 k (nI 0)) 13 (eS E) (nI 0)) L1 58 [some (.ref (gB G + 0)), some (.int (nI k)), some (.int (nI (eS E))), some (.int (nI j)), none, none, none] [] := by
    intro fuel
    induction fuel with
    | zero => intro j L1 q1 q2 hA; exfalso; omega
    | succ fuel ih_la =>
      intro j L1 q1 q2 hA
      refine j_iload_n C dX7_divide_58 rfl rfl ?_
      refine j_iconst (v := nI 5) C dX7_divide_59 (by decide) ?_
      first | refine n_icmp_ge (tgt := 100) C (by omega) (by omega) dX7_divide_60 (by decide) (fun h_60 => ?_) (fun h_60 => ?_) | refine j_icmp_ge (tgt := 100) C dX7_divide_60 (by decide) (fun h_60 => ?_) (fun h_60 => ?_)
      · refine j_iconst (v := nI 0) C dX7_divide_100 (by decide) ?_
        refine j_istore_n C dX7_divide_101 rfl (by decide) ?_
        exact lb (n + 2) 0 false _ L1 (by omega) (by omega) (DB_0 hX hQ hk hw (by rw [show 5 = j by omega]; exact hA))
      · refine j_aload_n C dX7_divide_63 rfl rfl ?_
        refine g_getR C (o0) fl_X7_46 (by rfl) dX7_divide_64 ?_
        refine j_iconst (v := nI 5) C dX7_divide_67 (by decide) ?_
        refine j_iload_n C dX7_divide_68 rfl rfl ?_
        first | refine n_imul C dX7_divide_69 ?_ | refine j_imul C dX7_divide_69 ?_
        refine j_iload_n C dX7_divide_70 rfl rfl ?_
        first | refine n_iadd C dX7_divide_71 ?_ | refine j_iadd C dX7_divide_71 ?_
        refine j_iload_n C dX7_divide_72 rfl rfl ?_
        refine j_iload_n C dX7_divide_73 rfl rfl ?_
        first | refine n_icmp_ne (tgt := 81) C (by omega) (by omega) dX7_divide_74 (by decide) (fun h_74 => ?_) (fun h_74 => ?_) | refine j_icmp_ne (tgt := 81) C dX7_divide_74 (by decide) (fun h_74 => ?_) (fun h_74 => ?_)
        · refine j_lconst (v := 0) C dX7_divide_81 (by decide) ?_
          refine g_last C (a11) (by omega) (by decide) dX7_divide_82 ?_
          refine j_aload_n C dX7_divide_83 rfl rfl ?_
          refine g_getR C (o0) fl_X7_49 (by rfl) dX7_divide_84 ?_
          refine j_iconst (v := nI 5) C dX7_divide_87 (by decide) ?_
          refine j_iload_n C dX7_divide_88 rfl rfl ?_
          first | refine n_imul C dX7_divide_89 ?_ | refine j_imul C dX7_divide_89 ?_
          refine j_iload_n C dX7_divide_90 rfl rfl ?_
          first | refine n_iadd C dX7_divide_91 ?_ | refine j_iadd C dX7_divide_91 ?_
          refine j_lconst (v := 1) C dX7_divide_92 (by decide) ?_
          refine g_last C (a12) (by omega) (by decide) dX7_divide_93 ?_
          first | refine n_iinc (n := 1) C dX7_divide_94 rfl (by decide) ?_ | refine j_iinc C dX7_divide_94 rfl rfl (by decide) ?_
          refine j_goto (tgt := 58) C dX7_divide_97 (by decide) ?_
          first
          | exact ih_la (j + 1) _ (by omega) (by omega) (LA_s hA (by omega) (if_pos h_74))
          | exact ih_la (j + 1) _ (by omega) (by omega) (LA_s hA (by omega) (if_neg h_74))
        · refine j_lconst (v := 1) C dX7_divide_77 (by decide) ?_
          refine j_goto (tgt := 82) C dX7_divide_78 (by decide) ?_
          refine g_last C (a11) (by omega) (by decide) dX7_divide_82 ?_
          refine j_aload_n C dX7_divide_83 rfl rfl ?_
          refine g_getR C (o0) fl_X7_49 (by rfl) dX7_divide_84 ?_
          refine j_iconst (v := nI 5) C dX7_divide_87 (by decide) ?_
          refine j_iload_n C dX7_divide_88 rfl rfl ?_
          first | refine n_imul C dX7_divide_89 ?_ | refine j_imul C dX7_divide_89 ?_
          refine j_iload_n C dX7_divide_90 rfl rfl ?_
          first | refine n_iadd C dX7_divide_91 ?_ | refine j_iadd C dX7_divide_91 ?_
          refine j_lconst (v := 1) C dX7_divide_92 (by decide) ?_
          refine g_last C (a12) (by omega) (by decide) dX7_divide_93 ?_
          first | refine n_iinc (n := 1) C dX7_divide_94 rfl (by decide) ?_ | refine j_iinc C dX7_divide_94 rfl rfl (by decide) ?_
          refine j_goto (tgt := 58) C dX7_divide_97 (by decide) ?_
          first
          | exact ih_la (j + 1) _ (by omega) (by omega) (LA_s hA (by omega) (if_pos h_74))
          | exact ih_la (j + 1) _ (by omega) (by omega) (LA_s hA (by omega) (if_neg h_74))
  refine j_aload_n C dX7_divide_0 rfl rfl ?_
  refine g_getI C (o0) fl_X7_109 (by rfl) dX7_divide_1 ?_
  refine t_i hS ?_
  refine j_istore_n C dX7_divide_4 rfl (by decide) ?_
  refine j_aload_n C dX7_divide_5 rfl rfl ?_
  refine g_getR C (o0) fl_X7_37 (by rfl) dX7_divide_6 ?_
  refine j_iload_n C dX7_divide_9 rfl rfl ?_
  refine j_iload_n C dX7_divide_10 rfl rfl ?_
  refine g_iast C (a8) (by omega) (by decide) dX7_divide_11 ?_
  refine j_aload_n C dX7_divide_12 rfl rfl ?_
  refine g_getR C (o0) fl_X7_40 (by rfl) dX7_divide_13 ?_
  refine j_iload_n C dX7_divide_16 rfl rfl ?_
  refine j_aload_n C dX7_divide_17 rfl rfl ?_
  refine g_getR C (o0) fl_X7_20 (by rfl) dX7_divide_18 ?_
  refine j_bipush (v := nI 6) C dX7_divide_21 (by decide) ?_
  refine j_iload_n C dX7_divide_23 rfl rfl ?_
  first | refine n_imul C dX7_divide_24 ?_ | refine j_imul C dX7_divide_24 ?_
  refine g_lald C (a3) (by omega) (by decide) dX7_divide_25 ?_
  refine g_last C (a9) (by omega) (by decide) dX7_divide_26 ?_
  refine j_aload_n C dX7_divide_27 rfl rfl ?_
  refine g_getR C (o0) fl_X7_43 (by rfl) dX7_divide_28 ?_
  refine j_iload_n C dX7_divide_31 rfl rfl ?_
  refine j_aload_n C dX7_divide_32 rfl rfl ?_
  refine g_getR C (o0) fl_X7_24 (by rfl) dX7_divide_33 ?_
  refine j_bipush (v := nI 6) C dX7_divide_36 (by decide) ?_
  refine j_iload_n C dX7_divide_38 rfl rfl ?_
  first | refine n_imul C dX7_divide_39 ?_ | refine j_imul C dX7_divide_39 ?_
  refine g_lald C (a4) (by omega) (by decide) dX7_divide_40 ?_
  refine t_l (y := L 4 (6 * k)) (by rw [up2_ne _ (by decide)]) ?_
  refine g_last C (a10) (by omega) (by decide) dX7_divide_41 ?_
  refine j_aload_n C dX7_divide_42 rfl rfl ?_
  refine g_getR C (o0) fl_X7_33 (by rfl) dX7_divide_43 ?_
  refine j_iload_n C dX7_divide_46 rfl rfl ?_
  refine j_iconst (v := nI 0) C dX7_divide_47 (by decide) ?_
  refine g_zast C (a7) (by omega) (by decide) rfl dX7_divide_48 ?_
  refine j_aload_n C dX7_divide_49 rfl rfl ?_
  refine g_getR C (o0) fl_X7_52 (by rfl) dX7_divide_50 ?_
  refine j_iload_n C dX7_divide_53 rfl rfl ?_
  refine j_iconst (v := nI 0) C dX7_divide_54 (by decide) ?_
  refine g_iast C (a13) (by omega) (by decide) dX7_divide_55 ?_
  refine j_iconst (v := nI 0) C dX7_divide_56 (by decide) ?_
  refine j_istore_n C dX7_divide_57 rfl (by decide) ?_
  exact la 6 0 _ (by omega) (by omega) ⟨fun _ _ _ => rfl, fun q _ => by rw [up2_ne _ (by decide), up2_ne _ (by decide), up2_ne _ (by decide), up2_ne _ (by decide)], fun b hb => by omega⟩
