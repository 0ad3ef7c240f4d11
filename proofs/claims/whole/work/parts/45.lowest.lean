/-! ===== the model: isLowest ===== -/
theorem gcd_s2 {x y g : Nat} (h : Nat.gcd x y = g) : Nat.gcd y (x % y) = g := gcd_s h
set_option maxHeartbeats 4000000 in
set_option maxRecDepth 20000 in
theorem c_X7_isLowest (l : Launch) (G : GT) (rg : RgT) (I : II) (L : LL) (p1 q1 : Nat) (hp : p1 < 2 ^ 20) (hq : q1 < 2 ^ 20) : CtI l yX7_isLowest cX7_isLowest 6 (some FieldType.boolean) 1 G rg I L [.ref (gB G + 0), .int (nI p1), .int (nI q1)] (fun r I1 L1 => r = b2i (decide (Nat.gcd p1 q1 = 1)) ∧ I = I1 ∧ L = L1) := by
  refine ctI_of [some (.ref (gB G + 0)), some (.int (nI p1)), some (.int (nI q1)), none, none, none] rfl (Nat.le_of_ble_eq_true rfl) (by decide) ?_
  intro p e s m args below meth c C hr
  have lp : ∀ (fuel : Nat) (x y : Nat), y < fuel → x < 2 ^ 20 → y < 2 ^ 20 → Nat.gcd x y = Nat.gcd p1 q1 → J p l e (rmD 1) s m args below meth c (MQ below (QI G rg (fun r I1 L1 => r = b2i (decide (Nat.gcd p1 q1 = 1)) ∧ I = I1 ∧ L = L1)) args s 0 0 (rg_A G rg)) 6 G rg 0 0 I L 5 [some (.ref (gB G + 0)), some (.int (nI p1)), some (.int (nI q1)), some (.int (nI x)), some (.int (nI y)), none] [] := by
    intro fuel
    induction fuel with
    | zero => intro x y h1 hx hy hg; exfalso; omega
    | succ fuel ih_lp =>
      intro x y h1 hx hy hg
      refine j_iload C dX7_isLowest_5 rfl ?_
      refine j_if_eq (tgt := 26) C dX7_isLowest_7 (by decide) (fun h_7 => ?_) (fun h_7 => ?_)
      · have hy0 : y = 0 := Classical.byContradiction fun z => nI_ne0 (Nat.pos_of_ne_zero z) (by omega) h_7
        have hxg : x = Nat.gcd p1 q1 := by rw [← hg, hy0, Nat.gcd_zero_right]
        refine j_iload_n C dX7_isLowest_26 rfl rfl ?_
        refine j_iconst (v := nI 1) C dX7_isLowest_27 (by decide) ?_
        first | refine n_icmp_ne (tgt := 35) C (by omega) (by omega) dX7_isLowest_28 (by decide) (fun h_28 => ?_) (fun h_28 => ?_) | refine j_icmp_ne (tgt := 35) C dX7_isLowest_28 (by decide) (fun h_28 => ?_) (fun h_28 => ?_)
        · refine j_iconst (v := nI 0) C dX7_isLowest_35 (by decide) ?_
          exact j_zret C hr (by first | rfl | exact b2i_n _ rfl) dX7_isLowest_36 (by refine ⟨?_, rfl, rfl⟩; first | (rw [decide_eq_true (hxg.symm.trans h_28)]; rfl) | (rw [decide_eq_false (fun q => h_28 (hxg.trans q))]; rfl))
        · refine j_iconst (v := nI 1) C dX7_isLowest_31 (by decide) ?_
          refine j_goto (tgt := 36) C dX7_isLowest_32 (by decide) ?_
          exact j_zret C hr (by first | rfl | exact b2i_n _ rfl) dX7_isLowest_36 (by refine ⟨?_, rfl, rfl⟩; first | (rw [decide_eq_true (hxg.symm.trans h_28)]; rfl) | (rw [decide_eq_false (fun q => h_28 (hxg.trans q))]; rfl))
      · have hy0 : 0 < y := Nat.pos_of_ne_zero (fun z => h_7 (by rw [z]; rfl))
        refine j_iload_n C dX7_isLowest_10 rfl rfl ?_
        refine j_iload C dX7_isLowest_11 rfl ?_
        refine n_irem C (by omega) (by omega) (by omega) dX7_isLowest_13 ?_
        refine j_istore C dX7_isLowest_14 (by decide) ?_
        refine j_iload C dX7_isLowest_16 rfl ?_
        refine j_istore_n C dX7_isLowest_18 rfl (by decide) ?_
        refine j_iload C dX7_isLowest_19 rfl ?_
        refine j_istore C dX7_isLowest_21 (by decide) ?_
        refine j_goto (tgt := 5) C dX7_isLowest_23 (by decide) ?_
        refine j_rm 5 ?_
        have hlt := Nat.mod_lt x hy0
        exact ih_lp y (x % y) (by omega) hy (by omega) (gcd_s hg)
  refine j_iload_n C dX7_isLowest_0 rfl rfl ?_
  refine j_istore_n C dX7_isLowest_1 rfl (by decide) ?_
  refine j_iload_n C dX7_isLowest_2 rfl rfl ?_
  refine j_istore C dX7_isLowest_3 (by decide) ?_
  exact lp (q1 + 1) p1 q1 (by omega) hp hq rfl
