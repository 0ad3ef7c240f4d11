/-! ===== near ===== -/
def nearR (A : AS) (x : Int32) : Int64 := if okS A x = true then (FP.ddiv (FP.l2d (eW (aE A) x.toNatClampNeg).1) (FP.l2d (eW (aE A) x.toNatClampNeg).2)).toInt64 else 0
theorem c_X6_near (l : Launch) (G : GT) (rg : RgT) (I : II) (L : LL) (A : AS) (x : Int32) (hss : isSS rg) (hRC : RC A I L) (hok : aok A) : CtL l yX6_near cX6_near 3 (some FieldType.long) 9 G rg I L [.ref (gB G + 0), .int x] (fun r I1 L1 => r = nearR A x ∧ I = I1 ∧ L = L1) := by
  sorry
theorem c_X7_near (l : Launch) (G : GT) (rg : RgT) (I : II) (L : LL) (A : AS) (x : Int32) (hms : isMS rg) (hRM : RM A I L) (hok : aok A) : CtL l yX7_near cX7_near 2 (some FieldType.long) 9 G rg I L [.ref (gB G + 0), .int x] (fun r I1 L1 => r = nearR A x ∧ I = I1 ∧ L = L1) := by
  sorry
