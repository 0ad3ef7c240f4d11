section
-- ===== PART A: goes FIRST, ahead of the names: the tables' words, and 'selects' of the private methods out of them =====
/-- a private method of a class that the tables say can be made, by its rows of tables_1 -/
def lw_okq (q : MethodName × Nat) : Prop := (q.1.cls ≠ "java/lang/invoke/MethodHandle" ∧ q.1.cls ≠ "java/lang/invoke/VarHandle") ∧ Cond.instantiable q.1.cls q.2 ∈ tables_1 ∧ Cond.privateMethod q.1 ∈ tables_1 ∧ Cond.instanceMethod q.1 ∈ tables_1
theorem lw_p0 : lw_okq (⟨"SquareSums", "isForm", "(I)Z"⟩, 13) := ⟨⟨by decide +kernel, by decide +kernel⟩, List.mem_of_getElem? (i := 15) (by decide +kernel), List.mem_of_getElem? (i := 235) (by decide +kernel), List.mem_of_getElem? (i := 236) (by decide +kernel)⟩
theorem lw_p1 : lw_okq (⟨"SquareSums", "isIndex", "(I)Z"⟩, 13) := ⟨⟨by decide +kernel, by decide +kernel⟩, List.mem_of_getElem? (i := 15) (by decide +kernel), List.mem_of_getElem? (i := 239) (by decide +kernel), List.mem_of_getElem? (i := 240) (by decide +kernel)⟩
theorem lw_p2 : lw_okq (⟨"SquareSums$Elimination", "start", "(I)V"⟩, 10) := ⟨⟨by decide +kernel, by decide +kernel⟩, List.mem_of_getElem? (i := 63) (by decide +kernel), List.mem_of_getElem? (i := 290) (by decide +kernel), List.mem_of_getElem? (i := 291) (by decide +kernel)⟩
theorem lw_p3 : lw_okq (⟨"SquareSums$Elimination", "makeSquare", "(I)Z"⟩, 10) := ⟨⟨by decide +kernel, by decide +kernel⟩, List.mem_of_getElem? (i := 63) (by decide +kernel), List.mem_of_getElem? (i := 305) (by decide +kernel), List.mem_of_getElem? (i := 306) (by decide +kernel)⟩
theorem lw_p4 : lw_okq (⟨"SquareSums$Elimination", "lessen", "(I)Z"⟩, 10) := ⟨⟨by decide +kernel, by decide +kernel⟩, List.mem_of_getElem? (i := 63) (by decide +kernel), List.mem_of_getElem? (i := 326) (by decide +kernel), List.mem_of_getElem? (i := 327) (by decide +kernel)⟩
theorem lw_p5 : lw_okq (⟨"SquareSums", "startTelling", "(II)V"⟩, 13) := ⟨⟨by decide +kernel, by decide +kernel⟩, List.mem_of_getElem? (i := 15) (by decide +kernel), List.mem_of_getElem? (i := 346) (by decide +kernel), List.mem_of_getElem? (i := 347) (by decide +kernel)⟩
theorem lw_p6 : lw_okq (⟨"SquareSums$Elimination", "firstLeftOfSign", "(I)I"⟩, 10) := ⟨⟨by decide +kernel, by decide +kernel⟩, List.mem_of_getElem? (i := 63) (by decide +kernel), List.mem_of_getElem? (i := 360) (by decide +kernel), List.mem_of_getElem? (i := 361) (by decide +kernel)⟩
theorem lw_p7 : lw_okq (⟨"SquareSums$Elimination", "findPair", "()Z"⟩, 10) := ⟨⟨by decide +kernel, by decide +kernel⟩, List.mem_of_getElem? (i := 63) (by decide +kernel), List.mem_of_getElem? (i := 364) (by decide +kernel), List.mem_of_getElem? (i := 365) (by decide +kernel)⟩
theorem lw_p8 : lw_okq (⟨"SquareSums", "pointFound", "(LSquareSums$Form;)Z"⟩, 13) := ⟨⟨by decide +kernel, by decide +kernel⟩, List.mem_of_getElem? (i := 15) (by decide +kernel), List.mem_of_getElem? (i := 368) (by decide +kernel), List.mem_of_getElem? (i := 369) (by decide +kernel)⟩
theorem lw_p9 : lw_okq (⟨"SquareSums$Elimination", "clearWitness", "()V"⟩, 10) := ⟨⟨by decide +kernel, by decide +kernel⟩, List.mem_of_getElem? (i := 63) (by decide +kernel), List.mem_of_getElem? (i := 376) (by decide +kernel), List.mem_of_getElem? (i := 377) (by decide +kernel)⟩
theorem lw_p10 : lw_okq (⟨"SquareSums$Elimination", "goBack", "()Z"⟩, 10) := ⟨⟨by decide +kernel, by decide +kernel⟩, List.mem_of_getElem? (i := 63) (by decide +kernel), List.mem_of_getElem? (i := 382) (by decide +kernel), List.mem_of_getElem? (i := 383) (by decide +kernel)⟩
theorem lw_p11 : lw_okq (⟨"SquareSums$Elimination", "sumOfOthers", "(LSquareSums$Square;)Z"⟩, 10) := ⟨⟨by decide +kernel, by decide +kernel⟩, List.mem_of_getElem? (i := 63) (by decide +kernel), List.mem_of_getElem? (i := 386) (by decide +kernel), List.mem_of_getElem? (i := 387) (by decide +kernel)⟩
theorem lw_p12 : lw_okq (⟨"SquareSums$Point", "takeMultiple", "([LSquareSums$Fraction;JI)Z"⟩, 4) := ⟨⟨by decide +kernel, by decide +kernel⟩, List.mem_of_getElem? (i := 134) (by decide +kernel), List.mem_of_getElem? (i := 407) (by decide +kernel), List.mem_of_getElem? (i := 408) (by decide +kernel)⟩
theorem lw_p13 : lw_okq (⟨"SquareSums$Point", "workOut", "(LSquareSums$Form;I)Z"⟩, 4) := ⟨⟨by decide +kernel, by decide +kernel⟩, List.mem_of_getElem? (i := 134) (by decide +kernel), List.mem_of_getElem? (i := 412) (by decide +kernel), List.mem_of_getElem? (i := 413) (by decide +kernel)⟩
theorem lw_p14 : lw_okq (⟨"SquareSums", "endTelling", "(I)I"⟩, 13) := ⟨⟨by decide +kernel, by decide +kernel⟩, List.mem_of_getElem? (i := 15) (by decide +kernel), List.mem_of_getElem? (i := 418) (by decide +kernel), List.mem_of_getElem? (i := 419) (by decide +kernel)⟩
theorem lw_p15 : lw_okq (⟨"SquareSums", "multiplierFound", "(LSquareSums$Form;LSquareSums$Form;I)Z"⟩, 13) := ⟨⟨by decide +kernel, by decide +kernel⟩, List.mem_of_getElem? (i := 15) (by decide +kernel), List.mem_of_getElem? (i := 426) (by decide +kernel), List.mem_of_getElem? (i := 427) (by decide +kernel)⟩
def lw_privs_1 : List (MethodName × Nat) := [(⟨"SquareSums", "isForm", "(I)Z"⟩, 13), (⟨"SquareSums", "isIndex", "(I)Z"⟩, 13), (⟨"SquareSums$Elimination", "start", "(I)V"⟩, 10), (⟨"SquareSums$Elimination", "makeSquare", "(I)Z"⟩, 10), (⟨"SquareSums$Elimination", "lessen", "(I)Z"⟩, 10), (⟨"SquareSums", "startTelling", "(II)V"⟩, 13), (⟨"SquareSums$Elimination", "firstLeftOfSign", "(I)I"⟩, 10), (⟨"SquareSums$Elimination", "findPair", "()Z"⟩, 10), (⟨"SquareSums", "pointFound", "(LSquareSums$Form;)Z"⟩, 13), (⟨"SquareSums$Elimination", "clearWitness", "()V"⟩, 10), (⟨"SquareSums$Elimination", "goBack", "()Z"⟩, 10), (⟨"SquareSums$Elimination", "sumOfOthers", "(LSquareSums$Square;)Z"⟩, 10), (⟨"SquareSums$Point", "takeMultiple", "([LSquareSums$Fraction;JI)Z"⟩, 4), (⟨"SquareSums$Point", "workOut", "(LSquareSums$Form;I)Z"⟩, 4), (⟨"SquareSums", "endTelling", "(I)I"⟩, 13), (⟨"SquareSums", "multiplierFound", "(LSquareSums$Form;LSquareSums$Form;I)Z"⟩, 13)]
theorem lw_r1 : ∀ q ∈ lw_privs_1, lw_okq q := List.forall_mem_cons.mpr ⟨lw_p0, List.forall_mem_cons.mpr ⟨lw_p1, List.forall_mem_cons.mpr ⟨lw_p2, List.forall_mem_cons.mpr ⟨lw_p3, List.forall_mem_cons.mpr ⟨lw_p4, List.forall_mem_cons.mpr ⟨lw_p5, List.forall_mem_cons.mpr ⟨lw_p6, List.forall_mem_cons.mpr ⟨lw_p7, List.forall_mem_cons.mpr ⟨lw_p8, List.forall_mem_cons.mpr ⟨lw_p9, List.forall_mem_cons.mpr ⟨lw_p10, List.forall_mem_cons.mpr ⟨lw_p11, List.forall_mem_cons.mpr ⟨lw_p12, List.forall_mem_cons.mpr ⟨lw_p13, List.forall_mem_cons.mpr ⟨lw_p14, List.forall_mem_cons.mpr ⟨lw_p15, fun _ h => absurd h List.not_mem_nil⟩⟩⟩⟩⟩⟩⟩⟩⟩⟩⟩⟩⟩⟩⟩⟩
theorem lw_p16 : lw_okq (⟨"SquareSums", "wholePointFound", "(LSquareSums$Form;LSquareSums$Form;)Z"⟩, 13) := ⟨⟨by decide +kernel, by decide +kernel⟩, List.mem_of_getElem? (i := 15) (by decide +kernel), List.mem_of_getElem? (i := 439) (by decide +kernel), List.mem_of_getElem? (i := 440) (by decide +kernel)⟩
theorem lw_p17 : lw_okq (⟨"SquareSums", "nextOnGrid", "()V"⟩, 13) := ⟨⟨by decide +kernel, by decide +kernel⟩, List.mem_of_getElem? (i := 15) (by decide +kernel), List.mem_of_getElem? (i := 448) (by decide +kernel), List.mem_of_getElem? (i := 449) (by decide +kernel)⟩
theorem lw_p18 : lw_okq (⟨"SquareSums", "isSquare", "(I)Z"⟩, 13) := ⟨⟨by decide +kernel, by decide +kernel⟩, List.mem_of_getElem? (i := 15) (by decide +kernel), List.mem_of_getElem? (i := 461) (by decide +kernel), List.mem_of_getElem? (i := 462) (by decide +kernel)⟩
theorem lw_p19 : lw_okq (⟨"SquareSums", "isProved", "()Z"⟩, 13) := ⟨⟨by decide +kernel, by decide +kernel⟩, List.mem_of_getElem? (i := 15) (by decide +kernel), List.mem_of_getElem? (i := 499) (by decide +kernel), List.mem_of_getElem? (i := 500) (by decide +kernel)⟩
theorem lw_p20 : lw_okq (⟨"SquareSums", "expand", "(II)Z"⟩, 13) := ⟨⟨by decide +kernel, by decide +kernel⟩, List.mem_of_getElem? (i := 15) (by decide +kernel), List.mem_of_getElem? (i := 503) (by decide +kernel), List.mem_of_getElem? (i := 504) (by decide +kernel)⟩
theorem lw_p21 : lw_okq (⟨"SquareSumsModel", "isIn", "(JJJ)Z"⟩, 45) := ⟨⟨by decide +kernel, by decide +kernel⟩, List.mem_of_getElem? (i := 532) (by decide +kernel), List.mem_of_getElem? (i := 679) (by decide +kernel), List.mem_of_getElem? (i := 680) (by decide +kernel)⟩
theorem lw_p22 : lw_okq (⟨"SquareSumsModel", "isForm", "(I)Z"⟩, 45) := ⟨⟨by decide +kernel, by decide +kernel⟩, List.mem_of_getElem? (i := 532) (by decide +kernel), List.mem_of_getElem? (i := 691) (by decide +kernel), List.mem_of_getElem? (i := 692) (by decide +kernel)⟩
theorem lw_p23 : lw_okq (⟨"SquareSumsModel", "at", "(II)I"⟩, 45) := ⟨⟨by decide +kernel, by decide +kernel⟩, List.mem_of_getElem? (i := 532) (by decide +kernel), List.mem_of_getElem? (i := 698) (by decide +kernel), List.mem_of_getElem? (i := 699) (by decide +kernel)⟩
theorem lw_p24 : lw_okq (⟨"SquareSumsModel", "worth", "(I)J"⟩, 45) := ⟨⟨by decide +kernel, by decide +kernel⟩, List.mem_of_getElem? (i := 532) (by decide +kernel), List.mem_of_getElem? (i := 708) (by decide +kernel), List.mem_of_getElem? (i := 709) (by decide +kernel)⟩
theorem lw_p25 : lw_okq (⟨"SquareSumsModel", "save", "()V"⟩, 45) := ⟨⟨by decide +kernel, by decide +kernel⟩, List.mem_of_getElem? (i := 532) (by decide +kernel), List.mem_of_getElem? (i := 717) (by decide +kernel), List.mem_of_getElem? (i := 718) (by decide +kernel)⟩
theorem lw_p26 : lw_okq (⟨"SquareSumsModel", "matrix", "(I)V"⟩, 45) := ⟨⟨by decide +kernel, by decide +kernel⟩, List.mem_of_getElem? (i := 532) (by decide +kernel), List.mem_of_getElem? (i := 721) (by decide +kernel), List.mem_of_getElem? (i := 722) (by decide +kernel)⟩
theorem lw_p27 : lw_okq (⟨"SquareSumsModel", "begin", "()V"⟩, 45) := ⟨⟨by decide +kernel, by decide +kernel⟩, List.mem_of_getElem? (i := 532) (by decide +kernel), List.mem_of_getElem? (i := 726) (by decide +kernel), List.mem_of_getElem? (i := 727) (by decide +kernel)⟩
theorem lw_p28 : lw_okq (⟨"SquareSumsModel", "inOrder", "(I)I"⟩, 45) := ⟨⟨by decide +kernel, by decide +kernel⟩, List.mem_of_getElem? (i := 532) (by decide +kernel), List.mem_of_getElem? (i := 730) (by decide +kernel), List.mem_of_getElem? (i := 731) (by decide +kernel)⟩
theorem lw_p29 : lw_okq (⟨"SquareSumsModel", "divide", "(I)V"⟩, 45) := ⟨⟨by decide +kernel, by decide +kernel⟩, List.mem_of_getElem? (i := 532) (by decide +kernel), List.mem_of_getElem? (i := 734) (by decide +kernel), List.mem_of_getElem? (i := 735) (by decide +kernel)⟩
theorem lw_p30 : lw_okq (⟨"SquareSumsModel", "isWrong", "()Z"⟩, 45) := ⟨⟨by decide +kernel, by decide +kernel⟩, List.mem_of_getElem? (i := 532) (by decide +kernel), List.mem_of_getElem? (i := 738) (by decide +kernel), List.mem_of_getElem? (i := 739) (by decide +kernel)⟩
theorem lw_p31 : lw_okq (⟨"SquareSumsModel", "quotient", "(JJJJ)V"⟩, 45) := ⟨⟨by decide +kernel, by decide +kernel⟩, List.mem_of_getElem? (i := 532) (by decide +kernel), List.mem_of_getElem? (i := 742) (by decide +kernel), List.mem_of_getElem? (i := 743) (by decide +kernel)⟩
def lw_privs_2 : List (MethodName × Nat) := [(⟨"SquareSums", "wholePointFound", "(LSquareSums$Form;LSquareSums$Form;)Z"⟩, 13), (⟨"SquareSums", "nextOnGrid", "()V"⟩, 13), (⟨"SquareSums", "isSquare", "(I)Z"⟩, 13), (⟨"SquareSums", "isProved", "()Z"⟩, 13), (⟨"SquareSums", "expand", "(II)Z"⟩, 13), (⟨"SquareSumsModel", "isIn", "(JJJ)Z"⟩, 45), (⟨"SquareSumsModel", "isForm", "(I)Z"⟩, 45), (⟨"SquareSumsModel", "at", "(II)I"⟩, 45), (⟨"SquareSumsModel", "worth", "(I)J"⟩, 45), (⟨"SquareSumsModel", "save", "()V"⟩, 45), (⟨"SquareSumsModel", "matrix", "(I)V"⟩, 45), (⟨"SquareSumsModel", "begin", "()V"⟩, 45), (⟨"SquareSumsModel", "inOrder", "(I)I"⟩, 45), (⟨"SquareSumsModel", "divide", "(I)V"⟩, 45), (⟨"SquareSumsModel", "isWrong", "()Z"⟩, 45), (⟨"SquareSumsModel", "quotient", "(JJJJ)V"⟩, 45)]
theorem lw_r2 : ∀ q ∈ lw_privs_2, lw_okq q := List.forall_mem_cons.mpr ⟨lw_p16, List.forall_mem_cons.mpr ⟨lw_p17, List.forall_mem_cons.mpr ⟨lw_p18, List.forall_mem_cons.mpr ⟨lw_p19, List.forall_mem_cons.mpr ⟨lw_p20, List.forall_mem_cons.mpr ⟨lw_p21, List.forall_mem_cons.mpr ⟨lw_p22, List.forall_mem_cons.mpr ⟨lw_p23, List.forall_mem_cons.mpr ⟨lw_p24, List.forall_mem_cons.mpr ⟨lw_p25, List.forall_mem_cons.mpr ⟨lw_p26, List.forall_mem_cons.mpr ⟨lw_p27, List.forall_mem_cons.mpr ⟨lw_p28, List.forall_mem_cons.mpr ⟨lw_p29, List.forall_mem_cons.mpr ⟨lw_p30, List.forall_mem_cons.mpr ⟨lw_p31, fun _ h => absurd h List.not_mem_nil⟩⟩⟩⟩⟩⟩⟩⟩⟩⟩⟩⟩⟩⟩⟩⟩
theorem lw_p32 : lw_okq (⟨"SquareSumsModel", "times", "(JJ)J"⟩, 45) := ⟨⟨by decide +kernel, by decide +kernel⟩, List.mem_of_getElem? (i := 532) (by decide +kernel), List.mem_of_getElem? (i := 746) (by decide +kernel), List.mem_of_getElem? (i := 747) (by decide +kernel)⟩
theorem lw_p33 : lw_okq (⟨"SquareSumsModel", "lowest", "(JJ)V"⟩, 45) := ⟨⟨by decide +kernel, by decide +kernel⟩, List.mem_of_getElem? (i := 532) (by decide +kernel), List.mem_of_getElem? (i := 751) (by decide +kernel), List.mem_of_getElem? (i := 752) (by decide +kernel)⟩
theorem lw_p34 : lw_okq (⟨"SquareSumsModel", "product", "(JJJJ)V"⟩, 45) := ⟨⟨by decide +kernel, by decide +kernel⟩, List.mem_of_getElem? (i := 532) (by decide +kernel), List.mem_of_getElem? (i := 755) (by decide +kernel), List.mem_of_getElem? (i := 756) (by decide +kernel)⟩
theorem lw_p35 : lw_okq (⟨"SquareSumsModel", "difference", "(JJJJ)V"⟩, 45) := ⟨⟨by decide +kernel, by decide +kernel⟩, List.mem_of_getElem? (i := 532) (by decide +kernel), List.mem_of_getElem? (i := 759) (by decide +kernel), List.mem_of_getElem? (i := 760) (by decide +kernel)⟩
theorem lw_p36 : lw_okq (⟨"SquareSumsModel", "add", "(JJ)J"⟩, 45) := ⟨⟨by decide +kernel, by decide +kernel⟩, List.mem_of_getElem? (i := 532) (by decide +kernel), List.mem_of_getElem? (i := 763) (by decide +kernel), List.mem_of_getElem? (i := 764) (by decide +kernel)⟩
theorem lw_p37 : lw_okq (⟨"SquareSumsModel", "into", "(II)V"⟩, 45) := ⟨⟨by decide +kernel, by decide +kernel⟩, List.mem_of_getElem? (i := 532) (by decide +kernel), List.mem_of_getElem? (i := 767) (by decide +kernel), List.mem_of_getElem? (i := 768) (by decide +kernel)⟩
theorem lw_p38 : lw_okq (⟨"SquareSumsModel", "restore", "()V"⟩, 45) := ⟨⟨by decide +kernel, by decide +kernel⟩, List.mem_of_getElem? (i := 532) (by decide +kernel), List.mem_of_getElem? (i := 771) (by decide +kernel), List.mem_of_getElem? (i := 772) (by decide +kernel)⟩
theorem lw_p39 : lw_okq (⟨"SquareSumsModel", "beginProof", "(II)V"⟩, 45) := ⟨⟨by decide +kernel, by decide +kernel⟩, List.mem_of_getElem? (i := 532) (by decide +kernel), List.mem_of_getElem? (i := 779) (by decide +kernel), List.mem_of_getElem? (i := 780) (by decide +kernel)⟩
theorem lw_p40 : lw_okq (⟨"SquareSumsModel", "keepMatrix", "()V"⟩, 45) := ⟨⟨by decide +kernel, by decide +kernel⟩, List.mem_of_getElem? (i := 532) (by decide +kernel), List.mem_of_getElem? (i := 783) (by decide +kernel), List.mem_of_getElem? (i := 784) (by decide +kernel)⟩
theorem lw_p41 : lw_okq (⟨"SquareSumsModel", "eliminate", "()I"⟩, 45) := ⟨⟨by decide +kernel, by decide +kernel⟩, List.mem_of_getElem? (i := 532) (by decide +kernel), List.mem_of_getElem? (i := 787) (by decide +kernel), List.mem_of_getElem? (i := 788) (by decide +kernel)⟩
theorem lw_p42 : lw_okq (⟨"SquareSumsModel", "firstDiagonal", "(Z)I"⟩, 45) := ⟨⟨by decide +kernel, by decide +kernel⟩, List.mem_of_getElem? (i := 532) (by decide +kernel), List.mem_of_getElem? (i := 791) (by decide +kernel), List.mem_of_getElem? (i := 792) (by decide +kernel)⟩
theorem lw_p43 : lw_okq (⟨"SquareSumsModel", "findPair", "()Z"⟩, 45) := ⟨⟨by decide +kernel, by decide +kernel⟩, List.mem_of_getElem? (i := 532) (by decide +kernel), List.mem_of_getElem? (i := 795) (by decide +kernel), List.mem_of_getElem? (i := 796) (by decide +kernel)⟩
theorem lw_p44 : lw_okq (⟨"SquareSumsModel", "pointBy", "(I)Z"⟩, 45) := ⟨⟨by decide +kernel, by decide +kernel⟩, List.mem_of_getElem? (i := 532) (by decide +kernel), List.mem_of_getElem? (i := 799) (by decide +kernel), List.mem_of_getElem? (i := 800) (by decide +kernel)⟩
theorem lw_p45 : lw_okq (⟨"SquareSumsModel", "noWitness", "()V"⟩, 45) := ⟨⟨by decide +kernel, by decide +kernel⟩, List.mem_of_getElem? (i := 532) (by decide +kernel), List.mem_of_getElem? (i := 803) (by decide +kernel), List.mem_of_getElem? (i := 804) (by decide +kernel)⟩
theorem lw_p46 : lw_okq (⟨"SquareSumsModel", "goBack", "()V"⟩, 45) := ⟨⟨by decide +kernel, by decide +kernel⟩, List.mem_of_getElem? (i := 532) (by decide +kernel), List.mem_of_getElem? (i := 807) (by decide +kernel), List.mem_of_getElem? (i := 808) (by decide +kernel)⟩
theorem lw_p47 : lw_okq (⟨"SquareSumsModel", "sum", "(JJJJ)V"⟩, 45) := ⟨⟨by decide +kernel, by decide +kernel⟩, List.mem_of_getElem? (i := 532) (by decide +kernel), List.mem_of_getElem? (i := 811) (by decide +kernel), List.mem_of_getElem? (i := 812) (by decide +kernel)⟩
def lw_privs_3 : List (MethodName × Nat) := [(⟨"SquareSumsModel", "times", "(JJ)J"⟩, 45), (⟨"SquareSumsModel", "lowest", "(JJ)V"⟩, 45), (⟨"SquareSumsModel", "product", "(JJJJ)V"⟩, 45), (⟨"SquareSumsModel", "difference", "(JJJJ)V"⟩, 45), (⟨"SquareSumsModel", "add", "(JJ)J"⟩, 45), (⟨"SquareSumsModel", "into", "(II)V"⟩, 45), (⟨"SquareSumsModel", "restore", "()V"⟩, 45), (⟨"SquareSumsModel", "beginProof", "(II)V"⟩, 45), (⟨"SquareSumsModel", "keepMatrix", "()V"⟩, 45), (⟨"SquareSumsModel", "eliminate", "()I"⟩, 45), (⟨"SquareSumsModel", "firstDiagonal", "(Z)I"⟩, 45), (⟨"SquareSumsModel", "findPair", "()Z"⟩, 45), (⟨"SquareSumsModel", "pointBy", "(I)Z"⟩, 45), (⟨"SquareSumsModel", "noWitness", "()V"⟩, 45), (⟨"SquareSumsModel", "goBack", "()V"⟩, 45), (⟨"SquareSumsModel", "sum", "(JJJJ)V"⟩, 45)]
theorem lw_r3 : ∀ q ∈ lw_privs_3, lw_okq q := List.forall_mem_cons.mpr ⟨lw_p32, List.forall_mem_cons.mpr ⟨lw_p33, List.forall_mem_cons.mpr ⟨lw_p34, List.forall_mem_cons.mpr ⟨lw_p35, List.forall_mem_cons.mpr ⟨lw_p36, List.forall_mem_cons.mpr ⟨lw_p37, List.forall_mem_cons.mpr ⟨lw_p38, List.forall_mem_cons.mpr ⟨lw_p39, List.forall_mem_cons.mpr ⟨lw_p40, List.forall_mem_cons.mpr ⟨lw_p41, List.forall_mem_cons.mpr ⟨lw_p42, List.forall_mem_cons.mpr ⟨lw_p43, List.forall_mem_cons.mpr ⟨lw_p44, List.forall_mem_cons.mpr ⟨lw_p45, List.forall_mem_cons.mpr ⟨lw_p46, List.forall_mem_cons.mpr ⟨lw_p47, fun _ h => absurd h List.not_mem_nil⟩⟩⟩⟩⟩⟩⟩⟩⟩⟩⟩⟩⟩⟩⟩⟩
theorem lw_p48 : lw_okq (⟨"SquareSumsModel", "isBelow", "(I)Z"⟩, 45) := ⟨⟨by decide +kernel, by decide +kernel⟩, List.mem_of_getElem? (i := 532) (by decide +kernel), List.mem_of_getElem? (i := 815) (by decide +kernel), List.mem_of_getElem? (i := 816) (by decide +kernel)⟩
theorem lw_p49 : lw_okq (⟨"SquareSumsModel", "end", "(I)I"⟩, 45) := ⟨⟨by decide +kernel, by decide +kernel⟩, List.mem_of_getElem? (i := 532) (by decide +kernel), List.mem_of_getElem? (i := 819) (by decide +kernel), List.mem_of_getElem? (i := 820) (by decide +kernel)⟩
theorem lw_p50 : lw_okq (⟨"SquareSumsModel", "isLowest", "(II)Z"⟩, 45) := ⟨⟨by decide +kernel, by decide +kernel⟩, List.mem_of_getElem? (i := 532) (by decide +kernel), List.mem_of_getElem? (i := 828) (by decide +kernel), List.mem_of_getElem? (i := 829) (by decide +kernel)⟩
theorem lw_p51 : lw_okq (⟨"SquareSumsModel", "isDoneBy", "(II)Z"⟩, 45) := ⟨⟨by decide +kernel, by decide +kernel⟩, List.mem_of_getElem? (i := 532) (by decide +kernel), List.mem_of_getElem? (i := 832) (by decide +kernel), List.mem_of_getElem? (i := 833) (by decide +kernel)⟩
theorem lw_p52 : lw_okq (⟨"SquareSumsModel", "isThere", "()Z"⟩, 45) := ⟨⟨by decide +kernel, by decide +kernel⟩, List.mem_of_getElem? (i := 532) (by decide +kernel), List.mem_of_getElem? (i := 836) (by decide +kernel), List.mem_of_getElem? (i := 837) (by decide +kernel)⟩
theorem lw_p53 : lw_okq (⟨"SquareSumsModel", "isSquare", "(I)Z"⟩, 45) := ⟨⟨by decide +kernel, by decide +kernel⟩, List.mem_of_getElem? (i := 532) (by decide +kernel), List.mem_of_getElem? (i := 849) (by decide +kernel), List.mem_of_getElem? (i := 850) (by decide +kernel)⟩
def lw_privs_4 : List (MethodName × Nat) := [(⟨"SquareSumsModel", "isBelow", "(I)Z"⟩, 45), (⟨"SquareSumsModel", "end", "(I)I"⟩, 45), (⟨"SquareSumsModel", "isLowest", "(II)Z"⟩, 45), (⟨"SquareSumsModel", "isDoneBy", "(II)Z"⟩, 45), (⟨"SquareSumsModel", "isThere", "()Z"⟩, 45), (⟨"SquareSumsModel", "isSquare", "(I)Z"⟩, 45)]
theorem lw_r4 : ∀ q ∈ lw_privs_4, lw_okq q := List.forall_mem_cons.mpr ⟨lw_p48, List.forall_mem_cons.mpr ⟨lw_p49, List.forall_mem_cons.mpr ⟨lw_p50, List.forall_mem_cons.mpr ⟨lw_p51, List.forall_mem_cons.mpr ⟨lw_p52, List.forall_mem_cons.mpr ⟨lw_p53, fun _ h => absurd h List.not_mem_nil⟩⟩⟩⟩⟩⟩
def lw_privs : List (MethodName × Nat) := lw_privs_1 ++ (lw_privs_2 ++ (lw_privs_3 ++ (lw_privs_4)))
def lw_tbl : List Cond := k2_sels lw_privs ++ tables_1
theorem lw_privs_ok : ∀ q ∈ lw_privs, lw_okq q := by
  show ∀ q ∈ lw_privs_1 ++ (lw_privs_2 ++ (lw_privs_3 ++ (lw_privs_4))), lw_okq q
  exact List.forall_mem_append.mpr ⟨lw_r1, List.forall_mem_append.mpr ⟨lw_r2, List.forall_mem_append.mpr ⟨lw_r3, lw_r4⟩⟩⟩
/-- the streams that the claim lets the run draw from -/
abbrev lw_cs : List Choice := [Jvm.Choice.named "NaN.bits"]
theorem lw_bits : nanBits ∈ lw_cs := by first | decide | exact List.mem_cons_self | simp [lw_cs, nanBits]

def RX0 : String := "SquareSums$Elimination"
def TX0 : u_T := fun k => match k with
  | 0 => ("SquareSums$Elimination", "matrix", "LSquareSums$Matrix;", true)
  | 1 => ("SquareSums$Elimination", "left", "[Z", true)
  | 2 => ("SquareSums$Elimination", "squares", "[LSquareSums$Square;", true)
  | 3 => ("SquareSums$Elimination", "witness", "[LSquareSums$Fraction;", true)
  | 4 => ("SquareSums$Elimination", "product", "LSquareSums$Fraction;", true)
  | 5 => ("SquareSums$Elimination", "total", "LSquareSums$Fraction;", true)
  | 6 => ("SquareSums$Elimination", "n", "I", false)
  | 7 => ("SquareSums$Elimination", "squareCount", "I", false)
  | 8 => ("SquareSums$Elimination", "firstNegative", "I", false)
  | _ => ("SquareSums$Elimination", "secondNegative", "I", false)
def tyX0 : Nat → FieldType := fun k => match k with
  | 0 => .object "SquareSums$Matrix"
  | 1 => .array .boolean
  | 2 => .array (.object "SquareSums$Square")
  | 3 => .array (.object "SquareSums$Fraction")
  | 4 => .object "SquareSums$Fraction"
  | 5 => .object "SquareSums$Fraction"
  | 6 => .int
  | 7 => .int
  | 8 => .int
  | _ => .int
abbrev wsX00 : List Cond := u_ws RX0 TX0 10
theorem nmX0 : ∀ a, a < 10 → ∀ b, b < 10 → a ≠ b → (TX0 a).2.1 ≠ (TX0 b).2.1 := by decide +kernel
theorem tyX0_ok : ∀ k, k < 10 → parseFieldDescriptor (TX0 k).2.2.1 = some (tyX0 k) := by decide +kernel
abbrev cX0_init : ByteArray := prog_2_method_1_code
def yX0_init : MethodName := ⟨RX0, "<init>", "()V"⟩
abbrev cX0_run : ByteArray := prog_2_method_2_code
def yX0_run : MethodName := ⟨RX0, "run", "(LSquareSums$Matrix;I)I"⟩
abbrev cX0_runWithoutLooking : ByteArray := prog_2_method_3_code
def yX0_runWithoutLooking : MethodName := ⟨RX0, "runWithoutLooking", "(LSquareSums$Form;I)I"⟩
abbrev cX0_findNegative : ByteArray := prog_2_method_4_code
def yX0_findNegative : MethodName := ⟨RX0, "findNegative", "()Z"⟩
abbrev cX0_findZero : ByteArray := prog_2_method_5_code
def yX0_findZero : MethodName := ⟨RX0, "findZero", "()Z"⟩
abbrev cX0_start : ByteArray := prog_2_method_6_code
def yX0_start : MethodName := ⟨RX0, "start", "(I)V"⟩
abbrev cX0_firstLeftOfSign : ByteArray := prog_2_method_7_code
def yX0_firstLeftOfSign : MethodName := ⟨RX0, "firstLeftOfSign", "(I)I"⟩
abbrev cX0_findPair : ByteArray := prog_2_method_8_code
def yX0_findPair : MethodName := ⟨RX0, "findPair", "()Z"⟩
abbrev cX0_makeSquare : ByteArray := prog_2_method_9_code
def yX0_makeSquare : MethodName := ⟨RX0, "makeSquare", "(I)Z"⟩
abbrev cX0_lessen : ByteArray := prog_2_method_10_code
def yX0_lessen : MethodName := ⟨RX0, "lessen", "(I)Z"⟩
abbrev cX0_clearWitness : ByteArray := prog_2_method_11_code
def yX0_clearWitness : MethodName := ⟨RX0, "clearWitness", "()V"⟩
abbrev cX0_goBack : ByteArray := prog_2_method_12_code
def yX0_goBack : MethodName := ⟨RX0, "goBack", "()Z"⟩
abbrev cX0_sumOfOthers : ByteArray := prog_2_method_13_code
def yX0_sumOfOthers : MethodName := ⟨RX0, "sumOfOthers", "(LSquareSums$Square;)Z"⟩
def RX1 : String := "SquareSums$Form"
def TX1 : u_T := fun k => match k with
  | _ => ("SquareSums$Form", "numbers", "[I", true)
def tyX1 : Nat → FieldType := fun k => match k with
  | _ => .array .int
abbrev wsX10 : List Cond := u_ws RX1 TX1 1
theorem nmX1 : ∀ a, a < 1 → ∀ b, b < 1 → a ≠ b → (TX1 a).2.1 ≠ (TX1 b).2.1 := by decide +kernel
theorem tyX1_ok : ∀ k, k < 1 → parseFieldDescriptor (TX1 k).2.2.1 = some (tyX1 k) := by decide +kernel
abbrev cX1_init : ByteArray := prog_3_method_1_code
def yX1_init : MethodName := ⟨RX1, "<init>", "()V"⟩
abbrev cX1_clear : ByteArray := prog_3_method_2_code
def yX1_clear : MethodName := ⟨RX1, "clear", "()V"⟩
abbrev cX1_number : ByteArray := prog_3_method_3_code
def yX1_number : MethodName := ⟨RX1, "number", "(II)I"⟩
abbrev cX1_replace : ByteArray := prog_3_method_4_code
def yX1_replace : MethodName := ⟨RX1, "replace", "(III)I"⟩
abbrev cX1_atWhole : ByteArray := prog_3_method_5_code
def yX1_atWhole : MethodName := ⟨RX1, "atWhole", "([JI)J"⟩
def RX2 : String := "SquareSums$Fraction"
def TX2 : u_T := fun k => match k with
  | 0 => ("SquareSums$Fraction", "up", "J", false)
  | _ => ("SquareSums$Fraction", "down", "J", false)
def tyX2 : Nat → FieldType := fun k => match k with
  | 0 => .long
  | _ => .long
abbrev wsX20 : List Cond := u_ws RX2 TX2 2
theorem nmX2 : ∀ a, a < 2 → ∀ b, b < 2 → a ≠ b → (TX2 a).2.1 ≠ (TX2 b).2.1 := by decide +kernel
theorem tyX2_ok : ∀ k, k < 2 → parseFieldDescriptor (TX2 k).2.2.1 = some (tyX2 k) := by decide +kernel
abbrev cX2_init : ByteArray := prog_4_method_1_code
def yX2_init : MethodName := ⟨RX2, "<init>", "()V"⟩
abbrev cX2_put : ByteArray := prog_4_method_2_code
def yX2_put : MethodName := ⟨RX2, "put", "(JJ)Z"⟩
abbrev cX2_copy : ByteArray := prog_4_method_3_code
def yX2_copy : MethodName := ⟨RX2, "copy", "(LSquareSums$Fraction;)V"⟩
abbrev cX2_sum : ByteArray := prog_4_method_4_code
def yX2_sum : MethodName := ⟨RX2, "sum", "(LSquareSums$Fraction;LSquareSums$Fraction;)Z"⟩
abbrev cX2_difference : ByteArray := prog_4_method_5_code
def yX2_difference : MethodName := ⟨RX2, "difference", "(LSquareSums$Fraction;LSquareSums$Fraction;)Z"⟩
abbrev cX2_product : ByteArray := prog_4_method_6_code
def yX2_product : MethodName := ⟨RX2, "product", "(LSquareSums$Fraction;LSquareSums$Fraction;)Z"⟩
abbrev cX2_quotient : ByteArray := prog_4_method_7_code
def yX2_quotient : MethodName := ⟨RX2, "quotient", "(LSquareSums$Fraction;LSquareSums$Fraction;)Z"⟩
abbrev cX2_sign : ByteArray := prog_4_method_8_code
def yX2_sign : MethodName := ⟨RX2, "sign", "()I"⟩
abbrev cX2_isSame : ByteArray := prog_4_method_9_code
def yX2_isSame : MethodName := ⟨RX2, "isSame", "(LSquareSums$Fraction;)Z"⟩
abbrev cX2_part : ByteArray := prog_4_method_10_code
def yX2_part : MethodName := ⟨RX2, "part", "(I)J"⟩
abbrev cX2_commonDivisor : ByteArray := prog_4_method_11_code
def yX2_commonDivisor : MethodName := ⟨RX2, "commonDivisor", "(JJ)J"⟩
abbrev cX2_times : ByteArray := prog_4_method_12_code
def yX2_times : MethodName := ⟨RX2, "times", "(JJ)J"⟩
abbrev cX2_plus : ByteArray := prog_4_method_13_code
def yX2_plus : MethodName := ⟨RX2, "plus", "(JJ)J"⟩
abbrev cX2_minus : ByteArray := prog_4_method_14_code
def yX2_minus : MethodName := ⟨RX2, "minus", "(JJ)J"⟩
def RX3 : String := "SquareSums$Matrix"
def TX3 : u_T := fun k => match k with
  | 0 => ("SquareSums$Matrix", "items", "[LSquareSums$Fraction;", true)
  | _ => ("SquareSums$Matrix", "other", "LSquareSums$Fraction;", true)
def tyX3 : Nat → FieldType := fun k => match k with
  | 0 => .array (.object "SquareSums$Fraction")
  | _ => .object "SquareSums$Fraction"
abbrev wsX30 : List Cond := u_ws RX3 TX3 2
theorem nmX3 : ∀ a, a < 2 → ∀ b, b < 2 → a ≠ b → (TX3 a).2.1 ≠ (TX3 b).2.1 := by decide +kernel
theorem tyX3_ok : ∀ k, k < 2 → parseFieldDescriptor (TX3 k).2.2.1 = some (tyX3 k) := by decide +kernel
abbrev cX3_init : ByteArray := prog_5_method_1_code
def yX3_init : MethodName := ⟨RX3, "<init>", "()V"⟩
abbrev cX3_at : ByteArray := prog_5_method_2_code
def yX3_at : MethodName := ⟨RX3, "at", "(II)LSquareSums$Fraction;"⟩
abbrev cX3_take : ByteArray := prog_5_method_3_code
def yX3_take : MethodName := ⟨RX3, "take", "(LSquareSums$Form;I)V"⟩
abbrev cX3_takeLess : ByteArray := prog_5_method_4_code
def yX3_takeLess : MethodName := ⟨RX3, "takeLess", "(LSquareSums$Form;LSquareSums$Form;LSquareSums$Fraction;I)Z"⟩
abbrev cX3_copy : ByteArray := prog_5_method_5_code
def yX3_copy : MethodName := ⟨RX3, "copy", "(LSquareSums$Matrix;)V"⟩
def RX4 : String := "SquareSums$Point"
def TX4 : u_T := fun k => match k with
  | 0 => ("SquareSums$Point", "x", "[LSquareSums$Fraction;", true)
  | 1 => ("SquareSums$Point", "step", "LSquareSums$Fraction;", true)
  | 2 => ("SquareSums$Point", "formThere", "LSquareSums$Fraction;", true)
  | _ => ("SquareSums$Point", "there", "Z", false)
def tyX4 : Nat → FieldType := fun k => match k with
  | 0 => .array (.object "SquareSums$Fraction")
  | 1 => .object "SquareSums$Fraction"
  | 2 => .object "SquareSums$Fraction"
  | _ => .boolean
abbrev wsX40 : List Cond := u_ws RX4 TX4 4
theorem nmX4 : ∀ a, a < 4 → ∀ b, b < 4 → a ≠ b → (TX4 a).2.1 ≠ (TX4 b).2.1 := by decide +kernel
theorem tyX4_ok : ∀ k, k < 4 → parseFieldDescriptor (TX4 k).2.2.1 = some (tyX4 k) := by decide +kernel
abbrev cX4_init : ByteArray := prog_6_method_1_code
def yX4_init : MethodName := ⟨RX4, "<init>", "()V"⟩
abbrev cX4_byWitness : ByteArray := prog_6_method_2_code
def yX4_byWitness : MethodName := ⟨RX4, "byWitness", "([LSquareSums$Fraction;LSquareSums$Form;I)Z"⟩
abbrev cX4_byQuotients : ByteArray := prog_6_method_3_code
def yX4_byQuotients : MethodName := ⟨RX4, "byQuotients", "([LSquareSums$Fraction;I)Z"⟩
abbrev cX4_takeWhole : ByteArray := prog_6_method_4_code
def yX4_takeWhole : MethodName := ⟨RX4, "takeWhole", "([JI)V"⟩
abbrev cX4_takeMultiple : ByteArray := prog_6_method_5_code
def yX4_takeMultiple : MethodName := ⟨RX4, "takeMultiple", "([LSquareSums$Fraction;JI)Z"⟩
abbrev cX4_workOut : ByteArray := prog_6_method_6_code
def yX4_workOut : MethodName := ⟨RX4, "workOut", "(LSquareSums$Form;I)Z"⟩
def RX5 : String := "SquareSums$Square"
def TX5 : u_T := fun k => match k with
  | 0 => ("SquareSums$Square", "scale", "LSquareSums$Fraction;", true)
  | 1 => ("SquareSums$Square", "row", "[LSquareSums$Fraction;", true)
  | _ => ("SquareSums$Square", "pivotIndex", "I", false)
def tyX5 : Nat → FieldType := fun k => match k with
  | 0 => .object "SquareSums$Fraction"
  | 1 => .array (.object "SquareSums$Fraction")
  | _ => .int
abbrev wsX50 : List Cond := u_ws RX5 TX5 3
theorem nmX5 : ∀ a, a < 3 → ∀ b, b < 3 → a ≠ b → (TX5 a).2.1 ≠ (TX5 b).2.1 := by decide +kernel
theorem tyX5_ok : ∀ k, k < 3 → parseFieldDescriptor (TX5 k).2.2.1 = some (tyX5 k) := by decide +kernel
abbrev cX5_init : ByteArray := prog_7_method_1_code
def yX5_init : MethodName := ⟨RX5, "<init>", "()V"⟩
abbrev cX5_start : ByteArray := prog_7_method_2_code
def yX5_start : MethodName := ⟨RX5, "start", "(ILSquareSums$Fraction;)V"⟩
def RX6 : String := "SquareSums"
def TX6 : u_T := fun k => match k with
  | 0 => ("SquareSums", "forms", "[LSquareSums$Form;", true)
  | 1 => ("SquareSums", "latest", "[I", true)
  | 2 => ("SquareSums", "whole", "[J", true)
  | 3 => ("SquareSums", "provedMatrix", "LSquareSums$Matrix;", true)
  | 4 => ("SquareSums", "proof", "LSquareSums$Elimination;", true)
  | 5 => ("SquareSums", "unlooking", "LSquareSums$Elimination;", true)
  | 6 => ("SquareSums", "place", "LSquareSums$Point;", true)
  | 7 => ("SquareSums", "multiplier", "LSquareSums$Fraction;", true)
  | 8 => ("SquareSums", "expanded", "LSquareSums$Fraction;", true)
  | 9 => ("SquareSums", "item", "LSquareSums$Fraction;", true)
  | 10 => ("SquareSums", "variableCount", "I", false)
  | 11 => ("SquareSums", "formCount", "I", false)
  | _ => ("SquareSums", "proofCount", "I", false)
def tyX6 : Nat → FieldType := fun k => match k with
  | 0 => .array (.object "SquareSums$Form")
  | 1 => .array .int
  | 2 => .array .long
  | 3 => .object "SquareSums$Matrix"
  | 4 => .object "SquareSums$Elimination"
  | 5 => .object "SquareSums$Elimination"
  | 6 => .object "SquareSums$Point"
  | 7 => .object "SquareSums$Fraction"
  | 8 => .object "SquareSums$Fraction"
  | 9 => .object "SquareSums$Fraction"
  | 10 => .int
  | 11 => .int
  | _ => .int
abbrev wsX60 : List Cond := u_ws RX6 TX6 13
theorem nmX6 : ∀ a, a < 13 → ∀ b, b < 13 → a ≠ b → (TX6 a).2.1 ≠ (TX6 b).2.1 := by decide +kernel
theorem tyX6_ok : ∀ k, k < 13 → parseFieldDescriptor (TX6 k).2.2.1 = some (tyX6 k) := by decide +kernel
abbrev cX6_init : ByteArray := prog_1_method_1_code
def yX6_init : MethodName := ⟨RX6, "<init>", "()V"⟩
abbrev cX6_variables : ByteArray := prog_1_method_2_code
def yX6_variables : MethodName := ⟨RX6, "variables", "(I)I"⟩
abbrev cX6_form : ByteArray := prog_1_method_3_code
def yX6_form : MethodName := ⟨RX6, "form", "()I"⟩
abbrev cX6_term : ByteArray := prog_1_method_4_code
def yX6_term : MethodName := ⟨RX6, "term", "(IIII)I"⟩
abbrev cX6_value : ByteArray := prog_1_method_5_code
def yX6_value : MethodName := ⟨RX6, "value", "(IIIII)J"⟩
abbrev cX6_plain : ByteArray := prog_1_method_6_code
def yX6_plain : MethodName := ⟨RX6, "plain", "(I)I"⟩
abbrev cX6_prove : ByteArray := prog_1_method_7_code
def yX6_prove : MethodName := ⟨RX6, "prove", "(I)I"⟩
abbrev cX6_under : ByteArray := prog_1_method_8_code
def yX6_under : MethodName := ⟨RX6, "under", "(III)I"⟩
abbrev cX6_told : ByteArray := prog_1_method_9_code
def yX6_told : MethodName := ⟨RX6, "told", "(I)I"⟩
abbrev cX6_weight : ByteArray := prog_1_method_10_code
def yX6_weight : MethodName := ⟨RX6, "weight", "(II)J"⟩
abbrev cX6_line : ByteArray := prog_1_method_11_code
def yX6_line : MethodName := ⟨RX6, "line", "(III)J"⟩
abbrev cX6_point : ByteArray := prog_1_method_12_code
def yX6_point : MethodName := ⟨RX6, "point", "(II)J"⟩
abbrev cX6_near : ByteArray := prog_1_method_13_code
def yX6_near : MethodName := ⟨RX6, "near", "(I)J"⟩
abbrev cX6_plant : ByteArray := prog_1_method_14_code
def yX6_plant : MethodName := ⟨RX6, "plant", "(IJJ)I"⟩
abbrev cX6_check : ByteArray := prog_1_method_15_code
def yX6_check : MethodName := ⟨RX6, "check", "()I"⟩
abbrev cX6_equal : ByteArray := prog_1_method_16_code
def yX6_equal : MethodName := ⟨RX6, "equal", "()I"⟩
abbrev cX6_pivot : ByteArray := prog_1_method_17_code
def yX6_pivot : MethodName := ⟨RX6, "pivot", "(JJ)J"⟩
abbrev cX6_count : ByteArray := prog_1_method_18_code
def yX6_count : MethodName := ⟨RX6, "count", "(I)I"⟩
abbrev cX6_isForm : ByteArray := prog_1_method_19_code
def yX6_isForm : MethodName := ⟨RX6, "isForm", "(I)Z"⟩
abbrev cX6_isIndex : ByteArray := prog_1_method_20_code
def yX6_isIndex : MethodName := ⟨RX6, "isIndex", "(I)Z"⟩
abbrev cX6_isSquare : ByteArray := prog_1_method_21_code
def yX6_isSquare : MethodName := ⟨RX6, "isSquare", "(I)Z"⟩
abbrev cX6_isPart : ByteArray := prog_1_method_22_code
def yX6_isPart : MethodName := ⟨RX6, "isPart", "(I)Z"⟩
abbrev cX6_isProved : ByteArray := prog_1_method_23_code
def yX6_isProved : MethodName := ⟨RX6, "isProved", "()Z"⟩
abbrev cX6_startTelling : ByteArray := prog_1_method_24_code
def yX6_startTelling : MethodName := ⟨RX6, "startTelling", "(II)V"⟩
abbrev cX6_endTelling : ByteArray := prog_1_method_25_code
def yX6_endTelling : MethodName := ⟨RX6, "endTelling", "(I)I"⟩
abbrev cX6_pointFound : ByteArray := prog_1_method_26_code
def yX6_pointFound : MethodName := ⟨RX6, "pointFound", "(LSquareSums$Form;)Z"⟩
abbrev cX6_multiplierFound : ByteArray := prog_1_method_27_code
def yX6_multiplierFound : MethodName := ⟨RX6, "multiplierFound", "(LSquareSums$Form;LSquareSums$Form;I)Z"⟩
abbrev cX6_wholePointFound : ByteArray := prog_1_method_28_code
def yX6_wholePointFound : MethodName := ⟨RX6, "wholePointFound", "(LSquareSums$Form;LSquareSums$Form;)Z"⟩
abbrev cX6_nextOnGrid : ByteArray := prog_1_method_29_code
def yX6_nextOnGrid : MethodName := ⟨RX6, "nextOnGrid", "()V"⟩
abbrev cX6_expand : ByteArray := prog_1_method_30_code
def yX6_expand : MethodName := ⟨RX6, "expand", "(II)Z"⟩
abbrev cX6_bits : ByteArray := prog_1_method_31_code
def yX6_bits : MethodName := ⟨RX6, "bits", "(D)J"⟩
abbrev cX6_inOrder : ByteArray := prog_1_method_32_code
def yX6_inOrder : MethodName := ⟨RX6, "inOrder", "(II)I"⟩
abbrev cX6_rowOfFractions : ByteArray := prog_1_method_33_code
def yX6_rowOfFractions : MethodName := ⟨RX6, "rowOfFractions", "(I)[LSquareSums$Fraction;"⟩
def RX7 : String := "SquareSumsModel"
def TX7 : u_T := fun k => match k with
  | 0 => ("SquareSumsModel", "n", "I", false)
  | 1 => ("SquareSumsModel", "forms", "I", false)
  | 2 => ("SquareSumsModel", "terms", "[I", true)
  | 3 => ("SquareSumsModel", "proofs", "I", false)
  | 4 => ("SquareSumsModel", "whole", "[I", true)
  | 5 => ("SquareSumsModel", "up", "J", false)
  | 6 => ("SquareSumsModel", "down", "J", false)
  | 7 => ("SquareSumsModel", "isLong", "Z", false)
  | 8 => ("SquareSumsModel", "isByNone", "Z", false)
  | 9 => ("SquareSumsModel", "mUp", "[J", true)
  | 10 => ("SquareSumsModel", "mDown", "[J", true)
  | 11 => ("SquareSumsModel", "firstUp", "[J", true)
  | 12 => ("SquareSumsModel", "firstDown", "[J", true)
  | 13 => ("SquareSumsModel", "isLeft", "[Z", true)
  | 14 => ("SquareSumsModel", "squares", "I", false)
  | 15 => ("SquareSumsModel", "pivot", "[I", true)
  | 16 => ("SquareSumsModel", "weightUp", "[J", true)
  | 17 => ("SquareSumsModel", "weightDown", "[J", true)
  | 18 => ("SquareSumsModel", "lineUp", "[J", true)
  | 19 => ("SquareSumsModel", "lineDown", "[J", true)
  | 20 => ("SquareSumsModel", "with", "[I", true)
  | 21 => ("SquareSumsModel", "oneBelow", "I", false)
  | 22 => ("SquareSumsModel", "pairI", "I", false)
  | 23 => ("SquareSumsModel", "pairJ", "I", false)
  | 24 => ("SquareSumsModel", "savedSquares", "I", false)
  | 25 => ("SquareSumsModel", "savedPivot", "[I", true)
  | 26 => ("SquareSumsModel", "savedWith", "[I", true)
  | 27 => ("SquareSumsModel", "savedWeight", "[J", true)
  | 28 => ("SquareSumsModel", "savedLine", "[J", true)
  | 29 => ("SquareSumsModel", "savedLeft", "[Z", true)
  | 30 => ("SquareSumsModel", "vUp", "[J", true)
  | 31 => ("SquareSumsModel", "vDown", "[J", true)
  | 32 => ("SquareSumsModel", "hasPoint", "Z", false)
  | 33 => ("SquareSumsModel", "pointUp", "[J", true)
  | 34 => ("SquareSumsModel", "pointDown", "[J", true)
  | 35 => ("SquareSumsModel", "answer", "I", false)
  | 36 => ("SquareSumsModel", "goal", "I", false)
  | 37 => ("SquareSumsModel", "condition", "I", false)
  | 38 => ("SquareSumsModel", "multiplierUp", "I", false)
  | 39 => ("SquareSumsModel", "multiplierDown", "I", false)
  | 40 => ("SquareSumsModel", "tried", "I", false)
  | 41 => ("SquareSumsModel", "otherUp", "[J", true)
  | 42 => ("SquareSumsModel", "otherDown", "[J", true)
  | 43 => ("SquareSumsModel", "sumUp", "[J", true)
  | _ => ("SquareSumsModel", "sumDown", "[J", true)
def tyX7 : Nat → FieldType := fun k => match k with
  | 0 => .int
  | 1 => .int
  | 2 => .array .int
  | 3 => .int
  | 4 => .array .int
  | 5 => .long
  | 6 => .long
  | 7 => .boolean
  | 8 => .boolean
  | 9 => .array .long
  | 10 => .array .long
  | 11 => .array .long
  | 12 => .array .long
  | 13 => .array .boolean
  | 14 => .int
  | 15 => .array .int
  | 16 => .array .long
  | 17 => .array .long
  | 18 => .array .long
  | 19 => .array .long
  | 20 => .array .int
  | 21 => .int
  | 22 => .int
  | 23 => .int
  | 24 => .int
  | 25 => .array .int
  | 26 => .array .int
  | 27 => .array .long
  | 28 => .array .long
  | 29 => .array .boolean
  | 30 => .array .long
  | 31 => .array .long
  | 32 => .boolean
  | 33 => .array .long
  | 34 => .array .long
  | 35 => .int
  | 36 => .int
  | 37 => .int
  | 38 => .int
  | 39 => .int
  | 40 => .int
  | 41 => .array .long
  | 42 => .array .long
  | 43 => .array .long
  | _ => .array .long
abbrev wsX70 : List Cond := u_ws RX7 TX7 45
theorem nmX7 : ∀ a, a < 45 → ∀ b, b < 45 → a ≠ b → (TX7 a).2.1 ≠ (TX7 b).2.1 := by decide +kernel
theorem tyX7_ok : ∀ k, k < 45 → parseFieldDescriptor (TX7 k).2.2.1 = some (tyX7 k) := by decide +kernel
abbrev cX7_init : ByteArray := prog_9_method_1_code
def yX7_init : MethodName := ⟨RX7, "<init>", "()V"⟩
abbrev cX7_isIn : ByteArray := prog_9_method_2_code
def yX7_isIn : MethodName := ⟨RX7, "isIn", "(JJJ)Z"⟩
abbrev cX7_isForm : ByteArray := prog_9_method_3_code
def yX7_isForm : MethodName := ⟨RX7, "isForm", "(I)Z"⟩
abbrev cX7_variables : ByteArray := prog_9_method_4_code
def yX7_variables : MethodName := ⟨RX7, "variables", "(I)I"⟩
abbrev cX7_form : ByteArray := prog_9_method_5_code
def yX7_form : MethodName := ⟨RX7, "form", "()I"⟩
abbrev cX7_at : ByteArray := prog_9_method_6_code
def yX7_at : MethodName := ⟨RX7, "at", "(II)I"⟩
abbrev cX7_term : ByteArray := prog_9_method_7_code
def yX7_term : MethodName := ⟨RX7, "term", "(IIII)I"⟩
abbrev cX7_worth : ByteArray := prog_9_method_8_code
def yX7_worth : MethodName := ⟨RX7, "worth", "(I)J"⟩
abbrev cX7_value : ByteArray := prog_9_method_9_code
def yX7_value : MethodName := ⟨RX7, "value", "(IIIII)J"⟩
abbrev cX7_begin : ByteArray := prog_9_method_10_code
def yX7_begin : MethodName := ⟨RX7, "begin", "()V"⟩
abbrev cX7_isWrong : ByteArray := prog_9_method_11_code
def yX7_isWrong : MethodName := ⟨RX7, "isWrong", "()Z"⟩
abbrev cX7_times : ByteArray := prog_9_method_12_code
def yX7_times : MethodName := ⟨RX7, "times", "(JJ)J"⟩
abbrev cX7_add : ByteArray := prog_9_method_13_code
def yX7_add : MethodName := ⟨RX7, "add", "(JJ)J"⟩
abbrev cX7_lowest : ByteArray := prog_9_method_14_code
def yX7_lowest : MethodName := ⟨RX7, "lowest", "(JJ)V"⟩
abbrev cX7_sum : ByteArray := prog_9_method_15_code
def yX7_sum : MethodName := ⟨RX7, "sum", "(JJJJ)V"⟩
abbrev cX7_difference : ByteArray := prog_9_method_16_code
def yX7_difference : MethodName := ⟨RX7, "difference", "(JJJJ)V"⟩
abbrev cX7_product : ByteArray := prog_9_method_17_code
def yX7_product : MethodName := ⟨RX7, "product", "(JJJJ)V"⟩
abbrev cX7_quotient : ByteArray := prog_9_method_18_code
def yX7_quotient : MethodName := ⟨RX7, "quotient", "(JJJJ)V"⟩
abbrev cX7_inOrder : ByteArray := prog_9_method_19_code
def yX7_inOrder : MethodName := ⟨RX7, "inOrder", "(I)I"⟩
abbrev cX7_matrix : ByteArray := prog_9_method_20_code
def yX7_matrix : MethodName := ⟨RX7, "matrix", "(I)V"⟩
abbrev cX7_keepMatrix : ByteArray := prog_9_method_21_code
def yX7_keepMatrix : MethodName := ⟨RX7, "keepMatrix", "()V"⟩
abbrev cX7_into : ByteArray := prog_9_method_22_code
def yX7_into : MethodName := ⟨RX7, "into", "(II)V"⟩
abbrev cX7_divide : ByteArray := prog_9_method_23_code
def yX7_divide : MethodName := ⟨RX7, "divide", "(I)V"⟩
abbrev cX7_firstDiagonal : ByteArray := prog_9_method_24_code
def yX7_firstDiagonal : MethodName := ⟨RX7, "firstDiagonal", "(Z)I"⟩
abbrev cX7_findPair : ByteArray := prog_9_method_25_code
def yX7_findPair : MethodName := ⟨RX7, "findPair", "()Z"⟩
abbrev cX7_eliminate : ByteArray := prog_9_method_26_code
def yX7_eliminate : MethodName := ⟨RX7, "eliminate", "()I"⟩
abbrev cX7_plain : ByteArray := prog_9_method_27_code
def yX7_plain : MethodName := ⟨RX7, "plain", "(I)I"⟩
abbrev cX7_save : ByteArray := prog_9_method_28_code
def yX7_save : MethodName := ⟨RX7, "save", "()V"⟩
abbrev cX7_restore : ByteArray := prog_9_method_29_code
def yX7_restore : MethodName := ⟨RX7, "restore", "()V"⟩
abbrev cX7_noWitness : ByteArray := prog_9_method_30_code
def yX7_noWitness : MethodName := ⟨RX7, "noWitness", "()V"⟩
abbrev cX7_goBack : ByteArray := prog_9_method_31_code
def yX7_goBack : MethodName := ⟨RX7, "goBack", "()V"⟩
abbrev cX7_pointBy : ByteArray := prog_9_method_32_code
def yX7_pointBy : MethodName := ⟨RX7, "pointBy", "(I)Z"⟩
abbrev cX7_isBelow : ByteArray := prog_9_method_33_code
def yX7_isBelow : MethodName := ⟨RX7, "isBelow", "(I)Z"⟩
abbrev cX7_beginProof : ByteArray := prog_9_method_34_code
def yX7_beginProof : MethodName := ⟨RX7, "beginProof", "(II)V"⟩
abbrev cX7_end : ByteArray := prog_9_method_35_code
def yX7_end : MethodName := ⟨RX7, "end", "(I)I"⟩
abbrev cX7_prove : ByteArray := prog_9_method_36_code
def yX7_prove : MethodName := ⟨RX7, "prove", "(I)I"⟩
abbrev cX7_isLowest : ByteArray := prog_9_method_37_code
def yX7_isLowest : MethodName := ⟨RX7, "isLowest", "(II)Z"⟩
abbrev cX7_isDoneBy : ByteArray := prog_9_method_38_code
def yX7_isDoneBy : MethodName := ⟨RX7, "isDoneBy", "(II)Z"⟩
abbrev cX7_under : ByteArray := prog_9_method_39_code
def yX7_under : MethodName := ⟨RX7, "under", "(III)I"⟩
abbrev cX7_isThere : ByteArray := prog_9_method_40_code
def yX7_isThere : MethodName := ⟨RX7, "isThere", "()Z"⟩
abbrev cX7_told : ByteArray := prog_9_method_41_code
def yX7_told : MethodName := ⟨RX7, "told", "(I)I"⟩
abbrev cX7_isSquare : ByteArray := prog_9_method_42_code
def yX7_isSquare : MethodName := ⟨RX7, "isSquare", "(I)Z"⟩
abbrev cX7_weight : ByteArray := prog_9_method_43_code
def yX7_weight : MethodName := ⟨RX7, "weight", "(II)J"⟩
abbrev cX7_line : ByteArray := prog_9_method_44_code
def yX7_line : MethodName := ⟨RX7, "line", "(III)J"⟩
abbrev cX7_point : ByteArray := prog_9_method_45_code
def yX7_point : MethodName := ⟨RX7, "point", "(II)J"⟩
abbrev cX7_near : ByteArray := prog_9_method_46_code
def yX7_near : MethodName := ⟨RX7, "near", "(I)J"⟩
abbrev cX7_plant : ByteArray := prog_9_method_47_code
def yX7_plant : MethodName := ⟨RX7, "plant", "(IJJ)I"⟩
abbrev cX7_check : ByteArray := prog_9_method_48_code
def yX7_check : MethodName := ⟨RX7, "check", "()I"⟩
abbrev cX7_equal : ByteArray := prog_9_method_49_code
def yX7_equal : MethodName := ⟨RX7, "equal", "()I"⟩
abbrev cX7_pivot : ByteArray := prog_9_method_50_code
def yX7_pivot : MethodName := ⟨RX7, "pivot", "(JJ)J"⟩
abbrev cX7_count : ByteArray := prog_9_method_51_code
def yX7_count : MethodName := ⟨RX7, "count", "(I)I"⟩
def RJx145de : String := "java/io/Serializable"
def TJx145de : u_T := fun k => match k with
  | _ => ("", "", "", false)
def tyJx145de : Nat → FieldType := fun k => match k with
  | _ => .int
abbrev wsJx145de0 : List Cond := u_ws RJx145de TJx145de 0
def RJxb160c : String := "java/lang/Comparable"
def TJxb160c : u_T := fun k => match k with
  | _ => ("", "", "", false)
def tyJxb160c : Nat → FieldType := fun k => match k with
  | _ => .int
abbrev wsJxb160c0 : List Cond := u_ws RJxb160c TJxb160c 0
def RJxe99ae : String := "java/lang/Double"
def TJxe99ae : u_T := fun k => match k with
  | _ => ("", "", "", false)
def tyJxe99ae : Nat → FieldType := fun k => match k with
  | _ => .int
abbrev wsJxe99ae0 : List Cond := u_ws RJxe99ae TJxe99ae 0
abbrev cJxe99ae_isNaN_b9ae7 : ByteArray := prog_10_method_6_code
def yJxe99ae_isNaN_b9ae7 : MethodName := ⟨RJxe99ae, "isNaN", "(D)Z"⟩
abbrev cJxe99ae_doubleToLongBits_ccdee : ByteArray := prog_10_method_23_code
def yJxe99ae_doubleToLongBits_ccdee : MethodName := ⟨RJxe99ae, "doubleToLongBits", "(D)J"⟩
def RJ13 : String := "java/lang/Long"
def TJ13 : u_T := fun k => match k with
  | _ => ("", "", "", false)
def tyJ13 : Nat → FieldType := fun k => match k with
  | _ => .int
abbrev wsJ130 : List Cond := u_ws RJ13 TJ13 0
abbrev cJ13_compare_74951 : ByteArray := prog_11_method_42_code
def yJ13_compare_74951 : MethodName := ⟨RJ13, "compare", "(JJ)I"⟩
def RJ9 : String := "java/lang/Math"
def TJ9 : u_T := fun k => match k with
  | _ => ("", "", "", false)
def tyJ9 : Nat → FieldType := fun k => match k with
  | _ => .int
abbrev wsJ90 : List Cond := u_ws RJ9 TJ9 0
abbrev cJ9_max_7cf53 : ByteArray := prog_12_method_65_code
def yJ9_max_7cf53 : MethodName := ⟨RJ9, "max", "(II)I"⟩
abbrev cJ9_min_7cf53 : ByteArray := prog_12_method_69_code
def yJ9_min_7cf53 : MethodName := ⟨RJ9, "min", "(II)I"⟩
def RJxd2413 : String := "java/lang/Number"
def TJxd2413 : u_T := fun k => match k with
  | _ => ("", "", "", false)
def tyJxd2413 : Nat → FieldType := fun k => match k with
  | _ => .int
abbrev wsJxd24130 : List Cond := u_ws RJxd2413 TJxd2413 0
def RJxfd54e : String := "java/lang/constant/Constable"
def TJxfd54e : u_T := fun k => match k with
  | _ => ("", "", "", false)
def tyJxfd54e : Nat → FieldType := fun k => match k with
  | _ => .int
abbrev wsJxfd54e0 : List Cond := u_ws RJxfd54e TJxfd54e 0
def RJx3cf43 : String := "java/lang/constant/ConstantDesc"
def TJx3cf43 : u_T := fun k => match k with
  | _ => ("", "", "", false)
def tyJx3cf43 : Nat → FieldType := fun k => match k with
  | _ => .int
abbrev wsJx3cf430 : List Cond := u_ws RJx3cf43 TJx3cf43 0
def RJ7 : String := "java/util/Arrays"
def TJ7 : u_T := fun k => match k with
  | _ => ("", "", "", false)
def tyJ7 : Nat → FieldType := fun k => match k with
  | _ => .int
abbrev wsJ70 : List Cond := u_ws RJ7 TJ7 0
abbrev cJ7_fill_53178 : ByteArray := prog_14_method_103_code
def yJ7_fill_53178 : MethodName := ⟨RJ7, "fill", "([II)V"⟩
def RL : String := "SquareSumsLaw"
abbrev cL_law : ByteArray := code
def yL_law : MethodName := ⟨RL, "law", "([I)Z"⟩
abbrev vwCl : List vw_C := [(RX0, TX0, 10), (RX1, TX1, 1), (RX2, TX2, 2), (RX3, TX3, 2), (RX4, TX4, 4), (RX5, TX5, 3), (RX6, TX6, 13), (RX7, TX7, 45)]
theorem inX0 : ∀ w ∈ wsX00, w ∈ lw_tbl := by decide +kernel
theorem inX1 : ∀ w ∈ wsX10, w ∈ lw_tbl := by decide +kernel
theorem inX2 : ∀ w ∈ wsX20, w ∈ lw_tbl := by decide +kernel
theorem inX3 : ∀ w ∈ wsX30, w ∈ lw_tbl := by decide +kernel
theorem inX4 : ∀ w ∈ wsX40, w ∈ lw_tbl := by decide +kernel
theorem inX5 : ∀ w ∈ wsX50, w ∈ lw_tbl := by decide +kernel
theorem inX6 : ∀ w ∈ wsX60, w ∈ lw_tbl := by decide +kernel
theorem inX7 : ∀ w ∈ wsX70, w ∈ lw_tbl := by decide +kernel
end
section
theorem dX0_init_0 : decode cX0_init 0 = .ok (.aload_n 0, 1) := by decide +kernel
theorem dX0_init_1 : decode cX0_init 1 = .ok (.invokespecial 3, 3) := by decide +kernel
theorem dX0_init_4 : decode cX0_init 4 = .ok (.aload_n 0, 1) := by decide +kernel
theorem dX0_init_5 : decode cX0_init 5 = .ok (.new 9, 3) := by decide +kernel
theorem dX0_init_8 : decode cX0_init 8 = .ok (.dup, 1) := by decide +kernel
theorem dX0_init_9 : decode cX0_init 9 = .ok (.invokespecial 11, 3) := by decide +kernel
theorem dX0_init_12 : decode cX0_init 12 = .ok (.putfield 12, 3) := by decide +kernel
theorem dX0_init_15 : decode cX0_init 15 = .ok (.aload_n 0, 1) := by decide +kernel
theorem dX0_init_16 : decode cX0_init 16 = .ok (.iconst 5, 1) := by decide +kernel
theorem dX0_init_17 : decode cX0_init 17 = .ok (.newarray .boolean, 2) := by decide +kernel
theorem dX0_init_19 : decode cX0_init 19 = .ok (.putfield 18, 3) := by decide +kernel
theorem dX0_init_22 : decode cX0_init 22 = .ok (.aload_n 0, 1) := by decide +kernel
theorem dX0_init_23 : decode cX0_init 23 = .ok (.iconst 5, 1) := by decide +kernel
theorem dX0_init_24 : decode cX0_init 24 = .ok (.anewarray 22, 3) := by decide +kernel
theorem dX0_init_27 : decode cX0_init 27 = .ok (.putfield 24, 3) := by decide +kernel
theorem dX0_init_30 : decode cX0_init 30 = .ok (.aload_n 0, 1) := by decide +kernel
theorem dX0_init_31 : decode cX0_init 31 = .ok (.iconst 5, 1) := by decide +kernel
theorem dX0_init_32 : decode cX0_init 32 = .ok (.invokestatic 28, 3) := by decide +kernel
theorem dX0_init_35 : decode cX0_init 35 = .ok (.putfield 32, 3) := by decide +kernel
theorem dX0_init_38 : decode cX0_init 38 = .ok (.aload_n 0, 1) := by decide +kernel
theorem dX0_init_39 : decode cX0_init 39 = .ok (.new 36, 3) := by decide +kernel
theorem dX0_init_42 : decode cX0_init 42 = .ok (.dup, 1) := by decide +kernel
theorem dX0_init_43 : decode cX0_init 43 = .ok (.invokespecial 38, 3) := by decide +kernel
theorem dX0_init_46 : decode cX0_init 46 = .ok (.putfield 39, 3) := by decide +kernel
theorem dX0_init_49 : decode cX0_init 49 = .ok (.aload_n 0, 1) := by decide +kernel
theorem dX0_init_50 : decode cX0_init 50 = .ok (.new 36, 3) := by decide +kernel
theorem dX0_init_53 : decode cX0_init 53 = .ok (.dup, 1) := by decide +kernel
theorem dX0_init_54 : decode cX0_init 54 = .ok (.invokespecial 38, 3) := by decide +kernel
theorem dX0_init_57 : decode cX0_init 57 = .ok (.putfield 43, 3) := by decide +kernel
theorem dX0_init_60 : decode cX0_init 60 = .ok (.aload_n 0, 1) := by decide +kernel
theorem dX0_init_61 : decode cX0_init 61 = .ok (.iconst 0, 1) := by decide +kernel
theorem dX0_init_62 : decode cX0_init 62 = .ok (.putfield 46, 3) := by decide +kernel
theorem dX0_init_65 : decode cX0_init 65 = .ok (.aload_n 0, 1) := by decide +kernel
theorem dX0_init_66 : decode cX0_init 66 = .ok (.iconst 0, 1) := by decide +kernel
theorem dX0_init_67 : decode cX0_init 67 = .ok (.putfield 50, 3) := by decide +kernel
theorem dX0_init_70 : decode cX0_init 70 = .ok (.aload_n 0, 1) := by decide +kernel
theorem dX0_init_71 : decode cX0_init 71 = .ok (.iconst 0, 1) := by decide +kernel
theorem dX0_init_72 : decode cX0_init 72 = .ok (.putfield 53, 3) := by decide +kernel
theorem dX0_init_75 : decode cX0_init 75 = .ok (.aload_n 0, 1) := by decide +kernel
theorem dX0_init_76 : decode cX0_init 76 = .ok (.iconst (-1), 1) := by decide +kernel
theorem dX0_init_77 : decode cX0_init 77 = .ok (.putfield 56, 3) := by decide +kernel
theorem dX0_init_80 : decode cX0_init 80 = .ok (.iconst 0, 1) := by decide +kernel
theorem dX0_init_81 : decode cX0_init 81 = .ok (.istore_n 1, 1) := by decide +kernel
theorem dX0_init_82 : decode cX0_init 82 = .ok (.iload_n 1, 1) := by decide +kernel
theorem dX0_init_83 : decode cX0_init 83 = .ok (.iconst 5, 1) := by decide +kernel
theorem dX0_init_84 : decode cX0_init 84 = .ok (.if_icmp .ge 22, 3) := by decide +kernel
theorem dX0_init_87 : decode cX0_init 87 = .ok (.aload_n 0, 1) := by decide +kernel
theorem dX0_init_88 : decode cX0_init 88 = .ok (.getfield 24, 3) := by decide +kernel
theorem dX0_init_91 : decode cX0_init 91 = .ok (.iload_n 1, 1) := by decide +kernel
theorem dX0_init_92 : decode cX0_init 92 = .ok (.new 22, 3) := by decide +kernel
theorem dX0_init_95 : decode cX0_init 95 = .ok (.dup, 1) := by decide +kernel
theorem dX0_init_96 : decode cX0_init 96 = .ok (.invokespecial 59, 3) := by decide +kernel
theorem dX0_init_99 : decode cX0_init 99 = .ok (.aastore, 1) := by decide +kernel
theorem dX0_init_100 : decode cX0_init 100 = .ok (.iinc 1 1, 3) := by decide +kernel
theorem dX0_init_103 : decode cX0_init 103 = .ok (.goto (-21), 3) := by decide +kernel
theorem dX0_init_106 : decode cX0_init 106 = .ok (.return_, 1) := by decide +kernel
theorem dX0_run_0 : decode cX0_run 0 = .ok (.aload_n 0, 1) := by decide +kernel
theorem dX0_run_1 : decode cX0_run 1 = .ok (.getfield 12, 3) := by decide +kernel
theorem dX0_run_4 : decode cX0_run 4 = .ok (.aload_n 1, 1) := by decide +kernel
theorem dX0_run_5 : decode cX0_run 5 = .ok (.invokevirtual 60, 3) := by decide +kernel
theorem dX0_run_8 : decode cX0_run 8 = .ok (.aload_n 0, 1) := by decide +kernel
theorem dX0_run_9 : decode cX0_run 9 = .ok (.iload_n 2, 1) := by decide +kernel
theorem dX0_run_10 : decode cX0_run 10 = .ok (.invokevirtual 64, 3) := by decide +kernel
theorem dX0_run_13 : decode cX0_run 13 = .ok (.iconst 0, 1) := by decide +kernel
theorem dX0_run_14 : decode cX0_run 14 = .ok (.istore_n 3, 1) := by decide +kernel
theorem dX0_run_15 : decode cX0_run 15 = .ok (.iload_n 3, 1) := by decide +kernel
theorem dX0_run_16 : decode cX0_run 16 = .ok (.aload_n 0, 1) := by decide +kernel
theorem dX0_run_17 : decode cX0_run 17 = .ok (.getfield 46, 3) := by decide +kernel
theorem dX0_run_20 : decode cX0_run 20 = .ok (.if_icmp .gt 81, 3) := by decide +kernel
theorem dX0_run_23 : decode cX0_run 23 = .ok (.aload_n 0, 1) := by decide +kernel
theorem dX0_run_24 : decode cX0_run 24 = .ok (.iconst (-1), 1) := by decide +kernel
theorem dX0_run_25 : decode cX0_run 25 = .ok (.invokevirtual 68, 3) := by decide +kernel
theorem dX0_run_28 : decode cX0_run 28 = .ok (.istore 4, 2) := by decide +kernel
theorem dX0_run_30 : decode cX0_run 30 = .ok (.iload 4, 2) := by decide +kernel
theorem dX0_run_32 : decode cX0_run 32 = .ok (.iconst (-1), 1) := by decide +kernel
theorem dX0_run_33 : decode cX0_run 33 = .ok (.if_icmp .eq 16, 3) := by decide +kernel
theorem dX0_run_36 : decode cX0_run 36 = .ok (.aload_n 0, 1) := by decide +kernel
theorem dX0_run_37 : decode cX0_run 37 = .ok (.iload 4, 2) := by decide +kernel
theorem dX0_run_39 : decode cX0_run 39 = .ok (.putfield 53, 3) := by decide +kernel
theorem dX0_run_42 : decode cX0_run 42 = .ok (.aload_n 0, 1) := by decide +kernel
theorem dX0_run_43 : decode cX0_run 43 = .ok (.iconst (-1), 1) := by decide +kernel
theorem dX0_run_44 : decode cX0_run 44 = .ok (.putfield 56, 3) := by decide +kernel
theorem dX0_run_47 : decode cX0_run 47 = .ok (.iconst 0, 1) := by decide +kernel
theorem dX0_run_48 : decode cX0_run 48 = .ok (.ireturn, 1) := by decide +kernel
theorem dX0_run_49 : decode cX0_run 49 = .ok (.aload_n 0, 1) := by decide +kernel
theorem dX0_run_50 : decode cX0_run 50 = .ok (.iconst 1, 1) := by decide +kernel
theorem dX0_run_51 : decode cX0_run 51 = .ok (.invokevirtual 68, 3) := by decide +kernel
theorem dX0_run_54 : decode cX0_run 54 = .ok (.istore 5, 2) := by decide +kernel
theorem dX0_run_56 : decode cX0_run 56 = .ok (.iload 5, 2) := by decide +kernel
theorem dX0_run_58 : decode cX0_run 58 = .ok (.iconst (-1), 1) := by decide +kernel
theorem dX0_run_59 : decode cX0_run 59 = .ok (.if_icmp .ne 16, 3) := by decide +kernel
theorem dX0_run_62 : decode cX0_run 62 = .ok (.aload_n 0, 1) := by decide +kernel
theorem dX0_run_63 : decode cX0_run 63 = .ok (.invokevirtual 72, 3) := by decide +kernel
theorem dX0_run_66 : decode cX0_run 66 = .ok (.ifCond .eq 7, 3) := by decide +kernel
theorem dX0_run_69 : decode cX0_run 69 = .ok (.iconst 0, 1) := by decide +kernel
theorem dX0_run_70 : decode cX0_run 70 = .ok (.goto 4, 3) := by decide +kernel
theorem dX0_run_73 : decode cX0_run 73 = .ok (.iconst 1, 1) := by decide +kernel
theorem dX0_run_74 : decode cX0_run 74 = .ok (.ireturn, 1) := by decide +kernel
theorem dX0_run_75 : decode cX0_run 75 = .ok (.aload_n 0, 1) := by decide +kernel
theorem dX0_run_76 : decode cX0_run 76 = .ok (.iload 5, 2) := by decide +kernel
theorem dX0_run_78 : decode cX0_run 78 = .ok (.invokevirtual 76, 3) := by decide +kernel
theorem dX0_run_81 : decode cX0_run 81 = .ok (.ifCond .eq 12, 3) := by decide +kernel
theorem dX0_run_84 : decode cX0_run 84 = .ok (.aload_n 0, 1) := by decide +kernel
theorem dX0_run_85 : decode cX0_run 85 = .ok (.iload 5, 2) := by decide +kernel
theorem dX0_run_87 : decode cX0_run 87 = .ok (.invokevirtual 80, 3) := by decide +kernel
theorem dX0_run_90 : decode cX0_run 90 = .ok (.ifCond .ne 5, 3) := by decide +kernel
theorem dX0_run_93 : decode cX0_run 93 = .ok (.iconst 2, 1) := by decide +kernel
theorem dX0_run_94 : decode cX0_run 94 = .ok (.ireturn, 1) := by decide +kernel
theorem dX0_run_95 : decode cX0_run 95 = .ok (.iinc 3 1, 3) := by decide +kernel
theorem dX0_run_98 : decode cX0_run 98 = .ok (.goto (-83), 3) := by decide +kernel
theorem dX0_run_101 : decode cX0_run 101 = .ok (.iconst 1, 1) := by decide +kernel
theorem dX0_run_102 : decode cX0_run 102 = .ok (.ireturn, 1) := by decide +kernel
theorem dX0_runWithoutLooking_0 : decode cX0_runWithoutLooking 0 = .ok (.aload_n 0, 1) := by decide +kernel
theorem dX0_runWithoutLooking_1 : decode cX0_runWithoutLooking 1 = .ok (.getfield 12, 3) := by decide +kernel
theorem dX0_runWithoutLooking_4 : decode cX0_runWithoutLooking 4 = .ok (.aload_n 1, 1) := by decide +kernel
theorem dX0_runWithoutLooking_5 : decode cX0_runWithoutLooking 5 = .ok (.iload_n 2, 1) := by decide +kernel
theorem dX0_runWithoutLooking_6 : decode cX0_runWithoutLooking 6 = .ok (.invokevirtual 83, 3) := by decide +kernel
theorem dX0_runWithoutLooking_9 : decode cX0_runWithoutLooking 9 = .ok (.aload_n 0, 1) := by decide +kernel
theorem dX0_runWithoutLooking_10 : decode cX0_runWithoutLooking 10 = .ok (.iload_n 2, 1) := by decide +kernel
theorem dX0_runWithoutLooking_11 : decode cX0_runWithoutLooking 11 = .ok (.invokevirtual 64, 3) := by decide +kernel
theorem dX0_runWithoutLooking_14 : decode cX0_runWithoutLooking 14 = .ok (.iconst 0, 1) := by decide +kernel
theorem dX0_runWithoutLooking_15 : decode cX0_runWithoutLooking 15 = .ok (.istore_n 3, 1) := by decide +kernel
theorem dX0_runWithoutLooking_16 : decode cX0_runWithoutLooking 16 = .ok (.iconst 0, 1) := by decide +kernel
theorem dX0_runWithoutLooking_17 : decode cX0_runWithoutLooking 17 = .ok (.istore 4, 2) := by decide +kernel
theorem dX0_runWithoutLooking_19 : decode cX0_runWithoutLooking 19 = .ok (.iload 4, 2) := by decide +kernel
theorem dX0_runWithoutLooking_21 : decode cX0_runWithoutLooking 21 = .ok (.aload_n 0, 1) := by decide +kernel
theorem dX0_runWithoutLooking_22 : decode cX0_runWithoutLooking 22 = .ok (.getfield 46, 3) := by decide +kernel
theorem dX0_runWithoutLooking_25 : decode cX0_runWithoutLooking 25 = .ok (.if_icmp .gt 76, 3) := by decide +kernel
theorem dX0_runWithoutLooking_28 : decode cX0_runWithoutLooking 28 = .ok (.iload 4, 2) := by decide +kernel
theorem dX0_runWithoutLooking_30 : decode cX0_runWithoutLooking 30 = .ok (.aload_n 0, 1) := by decide +kernel
theorem dX0_runWithoutLooking_31 : decode cX0_runWithoutLooking 31 = .ok (.getfield 46, 3) := by decide +kernel
theorem dX0_runWithoutLooking_34 : decode cX0_runWithoutLooking 34 = .ok (.invokestatic 87, 3) := by decide +kernel
theorem dX0_runWithoutLooking_37 : decode cX0_runWithoutLooking 37 = .ok (.istore 5, 2) := by decide +kernel
theorem dX0_runWithoutLooking_39 : decode cX0_runWithoutLooking 39 = .ok (.aload_n 0, 1) := by decide +kernel
theorem dX0_runWithoutLooking_40 : decode cX0_runWithoutLooking 40 = .ok (.getfield 12, 3) := by decide +kernel
theorem dX0_runWithoutLooking_43 : decode cX0_runWithoutLooking 43 = .ok (.iload 5, 2) := by decide +kernel
theorem dX0_runWithoutLooking_45 : decode cX0_runWithoutLooking 45 = .ok (.iload 5, 2) := by decide +kernel
theorem dX0_runWithoutLooking_47 : decode cX0_runWithoutLooking 47 = .ok (.invokevirtual 91, 3) := by decide +kernel
theorem dX0_runWithoutLooking_50 : decode cX0_runWithoutLooking 50 = .ok (.invokevirtual 95, 3) := by decide +kernel
theorem dX0_runWithoutLooking_53 : decode cX0_runWithoutLooking 53 = .ok (.istore 6, 2) := by decide +kernel
theorem dX0_runWithoutLooking_55 : decode cX0_runWithoutLooking 55 = .ok (.iload 6, 2) := by decide +kernel
theorem dX0_runWithoutLooking_57 : decode cX0_runWithoutLooking 57 = .ok (.ifCond .ne 9, 3) := by decide +kernel
theorem dX0_runWithoutLooking_60 : decode cX0_runWithoutLooking 60 = .ok (.bipush (-10), 2) := by decide +kernel
theorem dX0_runWithoutLooking_62 : decode cX0_runWithoutLooking 62 = .ok (.iload 4, 2) := by decide +kernel
theorem dX0_runWithoutLooking_64 : decode cX0_runWithoutLooking 64 = .ok (.isub, 1) := by decide +kernel
theorem dX0_runWithoutLooking_65 : decode cX0_runWithoutLooking 65 = .ok (.ireturn, 1) := by decide +kernel
theorem dX0_runWithoutLooking_66 : decode cX0_runWithoutLooking 66 = .ok (.iload 6, 2) := by decide +kernel
theorem dX0_runWithoutLooking_68 : decode cX0_runWithoutLooking 68 = .ok (.ifCond .le 6, 3) := by decide +kernel
theorem dX0_runWithoutLooking_71 : decode cX0_runWithoutLooking 71 = .ok (.iinc 3 1, 3) := by decide +kernel
theorem dX0_runWithoutLooking_74 : decode cX0_runWithoutLooking 74 = .ok (.aload_n 0, 1) := by decide +kernel
theorem dX0_runWithoutLooking_75 : decode cX0_runWithoutLooking 75 = .ok (.iload 5, 2) := by decide +kernel
theorem dX0_runWithoutLooking_77 : decode cX0_runWithoutLooking 77 = .ok (.invokevirtual 76, 3) := by decide +kernel
theorem dX0_runWithoutLooking_80 : decode cX0_runWithoutLooking 80 = .ok (.ifCond .eq 12, 3) := by decide +kernel
theorem dX0_runWithoutLooking_83 : decode cX0_runWithoutLooking 83 = .ok (.aload_n 0, 1) := by decide +kernel
theorem dX0_runWithoutLooking_84 : decode cX0_runWithoutLooking 84 = .ok (.iload 5, 2) := by decide +kernel
theorem dX0_runWithoutLooking_86 : decode cX0_runWithoutLooking 86 = .ok (.invokevirtual 80, 3) := by decide +kernel
theorem dX0_runWithoutLooking_89 : decode cX0_runWithoutLooking 89 = .ok (.ifCond .ne 6, 3) := by decide +kernel
theorem dX0_runWithoutLooking_92 : decode cX0_runWithoutLooking 92 = .ok (.bipush (-30), 2) := by decide +kernel
theorem dX0_runWithoutLooking_94 : decode cX0_runWithoutLooking 94 = .ok (.ireturn, 1) := by decide +kernel
theorem dX0_runWithoutLooking_95 : decode cX0_runWithoutLooking 95 = .ok (.iinc 4 1, 3) := by decide +kernel
theorem dX0_runWithoutLooking_98 : decode cX0_runWithoutLooking 98 = .ok (.goto (-79), 3) := by decide +kernel
theorem dX0_runWithoutLooking_101 : decode cX0_runWithoutLooking 101 = .ok (.iload_n 3, 1) := by decide +kernel
theorem dX0_runWithoutLooking_102 : decode cX0_runWithoutLooking 102 = .ok (.ireturn, 1) := by decide +kernel
theorem dX0_findNegative_0 : decode cX0_findNegative 0 = .ok (.aload_n 0, 1) := by decide +kernel
theorem dX0_findNegative_1 : decode cX0_findNegative 1 = .ok (.invokevirtual 99, 3) := by decide +kernel
theorem dX0_findNegative_4 : decode cX0_findNegative 4 = .ok (.aload_n 0, 1) := by decide +kernel
theorem dX0_findNegative_5 : decode cX0_findNegative 5 = .ok (.getfield 32, 3) := by decide +kernel
theorem dX0_findNegative_8 : decode cX0_findNegative 8 = .ok (.aload_n 0, 1) := by decide +kernel
theorem dX0_findNegative_9 : decode cX0_findNegative 9 = .ok (.getfield 53, 3) := by decide +kernel
theorem dX0_findNegative_12 : decode cX0_findNegative 12 = .ok (.aaload, 1) := by decide +kernel
theorem dX0_findNegative_13 : decode cX0_findNegative 13 = .ok (.lconst 1, 1) := by decide +kernel
theorem dX0_findNegative_14 : decode cX0_findNegative 14 = .ok (.lconst 1, 1) := by decide +kernel
theorem dX0_findNegative_15 : decode cX0_findNegative 15 = .ok (.invokevirtual 102, 3) := by decide +kernel
theorem dX0_findNegative_18 : decode cX0_findNegative 18 = .ok (.pop, 1) := by decide +kernel
theorem dX0_findNegative_19 : decode cX0_findNegative 19 = .ok (.aload_n 0, 1) := by decide +kernel
theorem dX0_findNegative_20 : decode cX0_findNegative 20 = .ok (.getfield 56, 3) := by decide +kernel
theorem dX0_findNegative_23 : decode cX0_findNegative 23 = .ok (.iconst (-1), 1) := by decide +kernel
theorem dX0_findNegative_24 : decode cX0_findNegative 24 = .ok (.if_icmp .eq 55, 3) := by decide +kernel
theorem dX0_findNegative_27 : decode cX0_findNegative 27 = .ok (.aload_n 0, 1) := by decide +kernel
theorem dX0_findNegative_28 : decode cX0_findNegative 28 = .ok (.getfield 12, 3) := by decide +kernel
theorem dX0_findNegative_31 : decode cX0_findNegative 31 = .ok (.aload_n 0, 1) := by decide +kernel
theorem dX0_findNegative_32 : decode cX0_findNegative 32 = .ok (.getfield 53, 3) := by decide +kernel
theorem dX0_findNegative_35 : decode cX0_findNegative 35 = .ok (.aload_n 0, 1) := by decide +kernel
theorem dX0_findNegative_36 : decode cX0_findNegative 36 = .ok (.getfield 56, 3) := by decide +kernel
theorem dX0_findNegative_39 : decode cX0_findNegative 39 = .ok (.invokevirtual 91, 3) := by decide +kernel
theorem dX0_findNegative_42 : decode cX0_findNegative 42 = .ok (.invokevirtual 95, 3) := by decide +kernel
theorem dX0_findNegative_45 : decode cX0_findNegative 45 = .ok (.ifCond .le 7, 3) := by decide +kernel
theorem dX0_findNegative_48 : decode cX0_findNegative 48 = .ok (.iconst 1, 1) := by decide +kernel
theorem dX0_findNegative_49 : decode cX0_findNegative 49 = .ok (.goto 4, 3) := by decide +kernel
theorem dX0_findNegative_52 : decode cX0_findNegative 52 = .ok (.iconst 0, 1) := by decide +kernel
theorem dX0_findNegative_53 : decode cX0_findNegative 53 = .ok (.istore_n 1, 1) := by decide +kernel
theorem dX0_findNegative_54 : decode cX0_findNegative 54 = .ok (.aload_n 0, 1) := by decide +kernel
theorem dX0_findNegative_55 : decode cX0_findNegative 55 = .ok (.getfield 32, 3) := by decide +kernel
theorem dX0_findNegative_58 : decode cX0_findNegative 58 = .ok (.aload_n 0, 1) := by decide +kernel
theorem dX0_findNegative_59 : decode cX0_findNegative 59 = .ok (.getfield 56, 3) := by decide +kernel
theorem dX0_findNegative_62 : decode cX0_findNegative 62 = .ok (.aaload, 1) := by decide +kernel
theorem dX0_findNegative_63 : decode cX0_findNegative 63 = .ok (.iload_n 1, 1) := by decide +kernel
theorem dX0_findNegative_64 : decode cX0_findNegative 64 = .ok (.ifCond .eq 9, 3) := by decide +kernel
theorem dX0_findNegative_67 : decode cX0_findNegative 67 = .ok (.ldc2_w 106, 3) := by decide +kernel
theorem dX0_findNegative_70 : decode cX0_findNegative 70 = .ok (.goto 4, 3) := by decide +kernel
theorem dX0_findNegative_73 : decode cX0_findNegative 73 = .ok (.lconst 1, 1) := by decide +kernel
theorem dX0_findNegative_74 : decode cX0_findNegative 74 = .ok (.lconst 1, 1) := by decide +kernel
theorem dX0_findNegative_75 : decode cX0_findNegative 75 = .ok (.invokevirtual 102, 3) := by decide +kernel
theorem dX0_findNegative_78 : decode cX0_findNegative 78 = .ok (.pop, 1) := by decide +kernel
theorem dX0_findNegative_79 : decode cX0_findNegative 79 = .ok (.aload_n 0, 1) := by decide +kernel
theorem dX0_findNegative_80 : decode cX0_findNegative 80 = .ok (.invokevirtual 108, 3) := by decide +kernel
theorem dX0_findNegative_83 : decode cX0_findNegative 83 = .ok (.ireturn, 1) := by decide +kernel
theorem dX0_findZero_0 : decode cX0_findZero 0 = .ok (.aload_n 0, 1) := by decide +kernel
theorem dX0_findZero_1 : decode cX0_findZero 1 = .ok (.invokevirtual 99, 3) := by decide +kernel
theorem dX0_findZero_4 : decode cX0_findZero 4 = .ok (.aload_n 0, 1) := by decide +kernel
theorem dX0_findZero_5 : decode cX0_findZero 5 = .ok (.getfield 32, 3) := by decide +kernel
theorem dX0_findZero_8 : decode cX0_findZero 8 = .ok (.iconst 0, 1) := by decide +kernel
theorem dX0_findZero_9 : decode cX0_findZero 9 = .ok (.aaload, 1) := by decide +kernel
theorem dX0_findZero_10 : decode cX0_findZero 10 = .ok (.lconst 1, 1) := by decide +kernel
theorem dX0_findZero_11 : decode cX0_findZero 11 = .ok (.lconst 1, 1) := by decide +kernel
theorem dX0_findZero_12 : decode cX0_findZero 12 = .ok (.invokevirtual 102, 3) := by decide +kernel
theorem dX0_findZero_15 : decode cX0_findZero 15 = .ok (.pop, 1) := by decide +kernel
theorem dX0_findZero_16 : decode cX0_findZero 16 = .ok (.aload_n 0, 1) := by decide +kernel
theorem dX0_findZero_17 : decode cX0_findZero 17 = .ok (.invokevirtual 108, 3) := by decide +kernel
theorem dX0_findZero_20 : decode cX0_findZero 20 = .ok (.ireturn, 1) := by decide +kernel
theorem dX0_start_0 : decode cX0_start 0 = .ok (.aload_n 0, 1) := by decide +kernel
theorem dX0_start_1 : decode cX0_start 1 = .ok (.iload_n 1, 1) := by decide +kernel
theorem dX0_start_2 : decode cX0_start 2 = .ok (.putfield 46, 3) := by decide +kernel
theorem dX0_start_5 : decode cX0_start 5 = .ok (.aload_n 0, 1) := by decide +kernel
theorem dX0_start_6 : decode cX0_start 6 = .ok (.iconst 0, 1) := by decide +kernel
theorem dX0_start_7 : decode cX0_start 7 = .ok (.putfield 50, 3) := by decide +kernel
theorem dX0_start_10 : decode cX0_start 10 = .ok (.iconst 0, 1) := by decide +kernel
theorem dX0_start_11 : decode cX0_start 11 = .ok (.istore_n 2, 1) := by decide +kernel
theorem dX0_start_12 : decode cX0_start 12 = .ok (.iload_n 2, 1) := by decide +kernel
theorem dX0_start_13 : decode cX0_start 13 = .ok (.iconst 5, 1) := by decide +kernel
theorem dX0_start_14 : decode cX0_start 14 = .ok (.if_icmp .ge 28, 3) := by decide +kernel
theorem dX0_start_17 : decode cX0_start 17 = .ok (.aload_n 0, 1) := by decide +kernel
theorem dX0_start_18 : decode cX0_start 18 = .ok (.getfield 18, 3) := by decide +kernel
theorem dX0_start_21 : decode cX0_start 21 = .ok (.iload_n 2, 1) := by decide +kernel
theorem dX0_start_22 : decode cX0_start 22 = .ok (.iload_n 2, 1) := by decide +kernel
theorem dX0_start_23 : decode cX0_start 23 = .ok (.aload_n 0, 1) := by decide +kernel
theorem dX0_start_24 : decode cX0_start 24 = .ok (.getfield 46, 3) := by decide +kernel
theorem dX0_start_27 : decode cX0_start 27 = .ok (.if_icmp .gt 7, 3) := by decide +kernel
theorem dX0_start_30 : decode cX0_start 30 = .ok (.iconst 1, 1) := by decide +kernel
theorem dX0_start_31 : decode cX0_start 31 = .ok (.goto 4, 3) := by decide +kernel
theorem dX0_start_34 : decode cX0_start 34 = .ok (.iconst 0, 1) := by decide +kernel
theorem dX0_start_35 : decode cX0_start 35 = .ok (.bastore, 1) := by decide +kernel
theorem dX0_start_36 : decode cX0_start 36 = .ok (.iinc 2 1, 3) := by decide +kernel
theorem dX0_start_39 : decode cX0_start 39 = .ok (.goto (-27), 3) := by decide +kernel
theorem dX0_start_42 : decode cX0_start 42 = .ok (.return_, 1) := by decide +kernel
theorem dX0_firstLeftOfSign_0 : decode cX0_firstLeftOfSign 0 = .ok (.iconst 0, 1) := by decide +kernel
theorem dX0_firstLeftOfSign_1 : decode cX0_firstLeftOfSign 1 = .ok (.istore_n 2, 1) := by decide +kernel
theorem dX0_firstLeftOfSign_2 : decode cX0_firstLeftOfSign 2 = .ok (.iload_n 2, 1) := by decide +kernel
theorem dX0_firstLeftOfSign_3 : decode cX0_firstLeftOfSign 3 = .ok (.aload_n 0, 1) := by decide +kernel
theorem dX0_firstLeftOfSign_4 : decode cX0_firstLeftOfSign 4 = .ok (.getfield 46, 3) := by decide +kernel
theorem dX0_firstLeftOfSign_7 : decode cX0_firstLeftOfSign 7 = .ok (.if_icmp .gt 45, 3) := by decide +kernel
theorem dX0_firstLeftOfSign_10 : decode cX0_firstLeftOfSign 10 = .ok (.iload_n 2, 1) := by decide +kernel
theorem dX0_firstLeftOfSign_11 : decode cX0_firstLeftOfSign 11 = .ok (.aload_n 0, 1) := by decide +kernel
theorem dX0_firstLeftOfSign_12 : decode cX0_firstLeftOfSign 12 = .ok (.getfield 46, 3) := by decide +kernel
theorem dX0_firstLeftOfSign_15 : decode cX0_firstLeftOfSign 15 = .ok (.invokestatic 87, 3) := by decide +kernel
theorem dX0_firstLeftOfSign_18 : decode cX0_firstLeftOfSign 18 = .ok (.istore_n 3, 1) := by decide +kernel
theorem dX0_firstLeftOfSign_19 : decode cX0_firstLeftOfSign 19 = .ok (.aload_n 0, 1) := by decide +kernel
theorem dX0_firstLeftOfSign_20 : decode cX0_firstLeftOfSign 20 = .ok (.getfield 18, 3) := by decide +kernel
theorem dX0_firstLeftOfSign_23 : decode cX0_firstLeftOfSign 23 = .ok (.iload_n 3, 1) := by decide +kernel
theorem dX0_firstLeftOfSign_24 : decode cX0_firstLeftOfSign 24 = .ok (.baload, 1) := by decide +kernel
theorem dX0_firstLeftOfSign_25 : decode cX0_firstLeftOfSign 25 = .ok (.ifCond .eq 21, 3) := by decide +kernel
theorem dX0_firstLeftOfSign_28 : decode cX0_firstLeftOfSign 28 = .ok (.aload_n 0, 1) := by decide +kernel
theorem dX0_firstLeftOfSign_29 : decode cX0_firstLeftOfSign 29 = .ok (.getfield 12, 3) := by decide +kernel
theorem dX0_firstLeftOfSign_32 : decode cX0_firstLeftOfSign 32 = .ok (.iload_n 3, 1) := by decide +kernel
theorem dX0_firstLeftOfSign_33 : decode cX0_firstLeftOfSign 33 = .ok (.iload_n 3, 1) := by decide +kernel
theorem dX0_firstLeftOfSign_34 : decode cX0_firstLeftOfSign 34 = .ok (.invokevirtual 91, 3) := by decide +kernel
theorem dX0_firstLeftOfSign_37 : decode cX0_firstLeftOfSign 37 = .ok (.invokevirtual 95, 3) := by decide +kernel
theorem dX0_firstLeftOfSign_40 : decode cX0_firstLeftOfSign 40 = .ok (.iload_n 1, 1) := by decide +kernel
theorem dX0_firstLeftOfSign_41 : decode cX0_firstLeftOfSign 41 = .ok (.if_icmp .ne 5, 3) := by decide +kernel
theorem dX0_firstLeftOfSign_44 : decode cX0_firstLeftOfSign 44 = .ok (.iload_n 3, 1) := by decide +kernel
theorem dX0_firstLeftOfSign_45 : decode cX0_firstLeftOfSign 45 = .ok (.ireturn, 1) := by decide +kernel
theorem dX0_firstLeftOfSign_46 : decode cX0_firstLeftOfSign 46 = .ok (.iinc 2 1, 3) := by decide +kernel
theorem dX0_firstLeftOfSign_49 : decode cX0_firstLeftOfSign 49 = .ok (.goto (-47), 3) := by decide +kernel
theorem dX0_firstLeftOfSign_52 : decode cX0_firstLeftOfSign 52 = .ok (.iconst (-1), 1) := by decide +kernel
theorem dX0_firstLeftOfSign_53 : decode cX0_firstLeftOfSign 53 = .ok (.ireturn, 1) := by decide +kernel
theorem dX0_findPair_0 : decode cX0_findPair 0 = .ok (.iconst 0, 1) := by decide +kernel
theorem dX0_findPair_1 : decode cX0_findPair 1 = .ok (.istore_n 1, 1) := by decide +kernel
theorem dX0_findPair_2 : decode cX0_findPair 2 = .ok (.iload_n 1, 1) := by decide +kernel
theorem dX0_findPair_3 : decode cX0_findPair 3 = .ok (.aload_n 0, 1) := by decide +kernel
theorem dX0_findPair_4 : decode cX0_findPair 4 = .ok (.getfield 46, 3) := by decide +kernel
theorem dX0_findPair_7 : decode cX0_findPair 7 = .ok (.if_icmp .gt 94, 3) := by decide +kernel
theorem dX0_findPair_10 : decode cX0_findPair 10 = .ok (.iload_n 1, 1) := by decide +kernel
theorem dX0_findPair_11 : decode cX0_findPair 11 = .ok (.aload_n 0, 1) := by decide +kernel
theorem dX0_findPair_12 : decode cX0_findPair 12 = .ok (.getfield 46, 3) := by decide +kernel
theorem dX0_findPair_15 : decode cX0_findPair 15 = .ok (.invokestatic 87, 3) := by decide +kernel
theorem dX0_findPair_18 : decode cX0_findPair 18 = .ok (.istore_n 2, 1) := by decide +kernel
theorem dX0_findPair_19 : decode cX0_findPair 19 = .ok (.iload_n 1, 1) := by decide +kernel
theorem dX0_findPair_20 : decode cX0_findPair 20 = .ok (.iconst 1, 1) := by decide +kernel
theorem dX0_findPair_21 : decode cX0_findPair 21 = .ok (.iadd, 1) := by decide +kernel
theorem dX0_findPair_22 : decode cX0_findPair 22 = .ok (.istore_n 3, 1) := by decide +kernel
theorem dX0_findPair_23 : decode cX0_findPair 23 = .ok (.iload_n 3, 1) := by decide +kernel
theorem dX0_findPair_24 : decode cX0_findPair 24 = .ok (.aload_n 0, 1) := by decide +kernel
theorem dX0_findPair_25 : decode cX0_findPair 25 = .ok (.getfield 46, 3) := by decide +kernel
theorem dX0_findPair_28 : decode cX0_findPair 28 = .ok (.if_icmp .gt 67, 3) := by decide +kernel
theorem dX0_findPair_31 : decode cX0_findPair 31 = .ok (.iload_n 3, 1) := by decide +kernel
theorem dX0_findPair_32 : decode cX0_findPair 32 = .ok (.aload_n 0, 1) := by decide +kernel
theorem dX0_findPair_33 : decode cX0_findPair 33 = .ok (.getfield 46, 3) := by decide +kernel
theorem dX0_findPair_36 : decode cX0_findPair 36 = .ok (.invokestatic 87, 3) := by decide +kernel
theorem dX0_findPair_39 : decode cX0_findPair 39 = .ok (.istore 4, 2) := by decide +kernel
theorem dX0_findPair_41 : decode cX0_findPair 41 = .ok (.aload_n 0, 1) := by decide +kernel
theorem dX0_findPair_42 : decode cX0_findPair 42 = .ok (.getfield 18, 3) := by decide +kernel
theorem dX0_findPair_45 : decode cX0_findPair 45 = .ok (.iload_n 2, 1) := by decide +kernel
theorem dX0_findPair_46 : decode cX0_findPair 46 = .ok (.baload, 1) := by decide +kernel
theorem dX0_findPair_47 : decode cX0_findPair 47 = .ok (.ifCond .eq 42, 3) := by decide +kernel
theorem dX0_findPair_50 : decode cX0_findPair 50 = .ok (.aload_n 0, 1) := by decide +kernel
theorem dX0_findPair_51 : decode cX0_findPair 51 = .ok (.getfield 18, 3) := by decide +kernel
theorem dX0_findPair_54 : decode cX0_findPair 54 = .ok (.iload 4, 2) := by decide +kernel
theorem dX0_findPair_56 : decode cX0_findPair 56 = .ok (.baload, 1) := by decide +kernel
theorem dX0_findPair_57 : decode cX0_findPair 57 = .ok (.ifCond .eq 32, 3) := by decide +kernel
theorem dX0_findPair_60 : decode cX0_findPair 60 = .ok (.aload_n 0, 1) := by decide +kernel
theorem dX0_findPair_61 : decode cX0_findPair 61 = .ok (.getfield 12, 3) := by decide +kernel
theorem dX0_findPair_64 : decode cX0_findPair 64 = .ok (.iload_n 2, 1) := by decide +kernel
theorem dX0_findPair_65 : decode cX0_findPair 65 = .ok (.iload 4, 2) := by decide +kernel
theorem dX0_findPair_67 : decode cX0_findPair 67 = .ok (.invokevirtual 91, 3) := by decide +kernel
theorem dX0_findPair_70 : decode cX0_findPair 70 = .ok (.invokevirtual 95, 3) := by decide +kernel
theorem dX0_findPair_73 : decode cX0_findPair 73 = .ok (.ifCond .eq 16, 3) := by decide +kernel
theorem dX0_findPair_76 : decode cX0_findPair 76 = .ok (.aload_n 0, 1) := by decide +kernel
theorem dX0_findPair_77 : decode cX0_findPair 77 = .ok (.iload_n 2, 1) := by decide +kernel
theorem dX0_findPair_78 : decode cX0_findPair 78 = .ok (.putfield 53, 3) := by decide +kernel
theorem dX0_findPair_81 : decode cX0_findPair 81 = .ok (.aload_n 0, 1) := by decide +kernel
theorem dX0_findPair_82 : decode cX0_findPair 82 = .ok (.iload 4, 2) := by decide +kernel
theorem dX0_findPair_84 : decode cX0_findPair 84 = .ok (.putfield 56, 3) := by decide +kernel
theorem dX0_findPair_87 : decode cX0_findPair 87 = .ok (.iconst 1, 1) := by decide +kernel
theorem dX0_findPair_88 : decode cX0_findPair 88 = .ok (.ireturn, 1) := by decide +kernel
theorem dX0_findPair_89 : decode cX0_findPair 89 = .ok (.iinc 3 1, 3) := by decide +kernel
theorem dX0_findPair_92 : decode cX0_findPair 92 = .ok (.goto (-69), 3) := by decide +kernel
theorem dX0_findPair_95 : decode cX0_findPair 95 = .ok (.iinc 1 1, 3) := by decide +kernel
theorem dX0_findPair_98 : decode cX0_findPair 98 = .ok (.goto (-96), 3) := by decide +kernel
theorem dX0_findPair_101 : decode cX0_findPair 101 = .ok (.iconst 0, 1) := by decide +kernel
theorem dX0_findPair_102 : decode cX0_findPair 102 = .ok (.ireturn, 1) := by decide +kernel
theorem dX0_makeSquare_0 : decode cX0_makeSquare 0 = .ok (.aload_n 0, 1) := by decide +kernel
theorem dX0_makeSquare_1 : decode cX0_makeSquare 1 = .ok (.getfield 50, 3) := by decide +kernel
theorem dX0_makeSquare_4 : decode cX0_makeSquare 4 = .ok (.iconst 5, 1) := by decide +kernel
theorem dX0_makeSquare_5 : decode cX0_makeSquare 5 = .ok (.if_icmp .ge 18, 3) := by decide +kernel
theorem dX0_makeSquare_8 : decode cX0_makeSquare 8 = .ok (.aload_n 0, 1) := by decide +kernel
theorem dX0_makeSquare_9 : decode cX0_makeSquare 9 = .ok (.getfield 12, 3) := by decide +kernel
theorem dX0_makeSquare_12 : decode cX0_makeSquare 12 = .ok (.iload_n 1, 1) := by decide +kernel
theorem dX0_makeSquare_13 : decode cX0_makeSquare 13 = .ok (.iload_n 1, 1) := by decide +kernel
theorem dX0_makeSquare_14 : decode cX0_makeSquare 14 = .ok (.invokevirtual 91, 3) := by decide +kernel
theorem dX0_makeSquare_17 : decode cX0_makeSquare 17 = .ok (.invokevirtual 95, 3) := by decide +kernel
theorem dX0_makeSquare_20 : decode cX0_makeSquare 20 = .ok (.ifCond .ne 5, 3) := by decide +kernel
theorem dX0_makeSquare_23 : decode cX0_makeSquare 23 = .ok (.iconst 0, 1) := by decide +kernel
theorem dX0_makeSquare_24 : decode cX0_makeSquare 24 = .ok (.ireturn, 1) := by decide +kernel
theorem dX0_makeSquare_25 : decode cX0_makeSquare 25 = .ok (.aload_n 0, 1) := by decide +kernel
theorem dX0_makeSquare_26 : decode cX0_makeSquare 26 = .ok (.getfield 24, 3) := by decide +kernel
theorem dX0_makeSquare_29 : decode cX0_makeSquare 29 = .ok (.aload_n 0, 1) := by decide +kernel
theorem dX0_makeSquare_30 : decode cX0_makeSquare 30 = .ok (.getfield 50, 3) := by decide +kernel
theorem dX0_makeSquare_33 : decode cX0_makeSquare 33 = .ok (.aaload, 1) := by decide +kernel
theorem dX0_makeSquare_34 : decode cX0_makeSquare 34 = .ok (.astore_n 2, 1) := by decide +kernel
theorem dX0_makeSquare_35 : decode cX0_makeSquare 35 = .ok (.aload_n 2, 1) := by decide +kernel
theorem dX0_makeSquare_36 : decode cX0_makeSquare 36 = .ok (.iload_n 1, 1) := by decide +kernel
theorem dX0_makeSquare_37 : decode cX0_makeSquare 37 = .ok (.aload_n 0, 1) := by decide +kernel
theorem dX0_makeSquare_38 : decode cX0_makeSquare 38 = .ok (.getfield 12, 3) := by decide +kernel
theorem dX0_makeSquare_41 : decode cX0_makeSquare 41 = .ok (.iload_n 1, 1) := by decide +kernel
theorem dX0_makeSquare_42 : decode cX0_makeSquare 42 = .ok (.iload_n 1, 1) := by decide +kernel
theorem dX0_makeSquare_43 : decode cX0_makeSquare 43 = .ok (.invokevirtual 91, 3) := by decide +kernel
theorem dX0_makeSquare_46 : decode cX0_makeSquare 46 = .ok (.invokevirtual 111, 3) := by decide +kernel
theorem dX0_makeSquare_49 : decode cX0_makeSquare 49 = .ok (.aload_n 0, 1) := by decide +kernel
theorem dX0_makeSquare_50 : decode cX0_makeSquare 50 = .ok (.dup, 1) := by decide +kernel
theorem dX0_makeSquare_51 : decode cX0_makeSquare 51 = .ok (.getfield 50, 3) := by decide +kernel
theorem dX0_makeSquare_54 : decode cX0_makeSquare 54 = .ok (.iconst 1, 1) := by decide +kernel
theorem dX0_makeSquare_55 : decode cX0_makeSquare 55 = .ok (.iadd, 1) := by decide +kernel
theorem dX0_makeSquare_56 : decode cX0_makeSquare 56 = .ok (.putfield 50, 3) := by decide +kernel
theorem dX0_makeSquare_59 : decode cX0_makeSquare 59 = .ok (.aload_n 0, 1) := by decide +kernel
theorem dX0_makeSquare_60 : decode cX0_makeSquare 60 = .ok (.getfield 18, 3) := by decide +kernel
theorem dX0_makeSquare_63 : decode cX0_makeSquare 63 = .ok (.iload_n 1, 1) := by decide +kernel
theorem dX0_makeSquare_64 : decode cX0_makeSquare 64 = .ok (.iconst 0, 1) := by decide +kernel
theorem dX0_makeSquare_65 : decode cX0_makeSquare 65 = .ok (.bastore, 1) := by decide +kernel
theorem dX0_makeSquare_66 : decode cX0_makeSquare 66 = .ok (.iconst 0, 1) := by decide +kernel
theorem dX0_makeSquare_67 : decode cX0_makeSquare 67 = .ok (.istore_n 3, 1) := by decide +kernel
theorem dX0_makeSquare_68 : decode cX0_makeSquare 68 = .ok (.iload_n 3, 1) := by decide +kernel
theorem dX0_makeSquare_69 : decode cX0_makeSquare 69 = .ok (.aload_n 0, 1) := by decide +kernel
theorem dX0_makeSquare_70 : decode cX0_makeSquare 70 = .ok (.getfield 46, 3) := by decide +kernel
theorem dX0_makeSquare_73 : decode cX0_makeSquare 73 = .ok (.if_icmp .gt 50, 3) := by decide +kernel
theorem dX0_makeSquare_76 : decode cX0_makeSquare 76 = .ok (.aload_n 0, 1) := by decide +kernel
theorem dX0_makeSquare_77 : decode cX0_makeSquare 77 = .ok (.getfield 18, 3) := by decide +kernel
theorem dX0_makeSquare_80 : decode cX0_makeSquare 80 = .ok (.iload_n 3, 1) := by decide +kernel
theorem dX0_makeSquare_81 : decode cX0_makeSquare 81 = .ok (.baload, 1) := by decide +kernel
theorem dX0_makeSquare_82 : decode cX0_makeSquare 82 = .ok (.ifCond .eq 35, 3) := by decide +kernel
theorem dX0_makeSquare_85 : decode cX0_makeSquare 85 = .ok (.aload_n 2, 1) := by decide +kernel
theorem dX0_makeSquare_86 : decode cX0_makeSquare 86 = .ok (.getfield 114, 3) := by decide +kernel
theorem dX0_makeSquare_89 : decode cX0_makeSquare 89 = .ok (.iload_n 3, 1) := by decide +kernel
theorem dX0_makeSquare_90 : decode cX0_makeSquare 90 = .ok (.aaload, 1) := by decide +kernel
theorem dX0_makeSquare_91 : decode cX0_makeSquare 91 = .ok (.aload_n 0, 1) := by decide +kernel
theorem dX0_makeSquare_92 : decode cX0_makeSquare 92 = .ok (.getfield 12, 3) := by decide +kernel
theorem dX0_makeSquare_95 : decode cX0_makeSquare 95 = .ok (.iload_n 1, 1) := by decide +kernel
theorem dX0_makeSquare_96 : decode cX0_makeSquare 96 = .ok (.iload_n 3, 1) := by decide +kernel
theorem dX0_makeSquare_97 : decode cX0_makeSquare 97 = .ok (.invokevirtual 91, 3) := by decide +kernel
theorem dX0_makeSquare_100 : decode cX0_makeSquare 100 = .ok (.aload_n 0, 1) := by decide +kernel
theorem dX0_makeSquare_101 : decode cX0_makeSquare 101 = .ok (.getfield 12, 3) := by decide +kernel
theorem dX0_makeSquare_104 : decode cX0_makeSquare 104 = .ok (.iload_n 1, 1) := by decide +kernel
theorem dX0_makeSquare_105 : decode cX0_makeSquare 105 = .ok (.iload_n 1, 1) := by decide +kernel
theorem dX0_makeSquare_106 : decode cX0_makeSquare 106 = .ok (.invokevirtual 91, 3) := by decide +kernel
theorem dX0_makeSquare_109 : decode cX0_makeSquare 109 = .ok (.invokevirtual 117, 3) := by decide +kernel
theorem dX0_makeSquare_112 : decode cX0_makeSquare 112 = .ok (.ifCond .ne 5, 3) := by decide +kernel
theorem dX0_makeSquare_115 : decode cX0_makeSquare 115 = .ok (.iconst 0, 1) := by decide +kernel
theorem dX0_makeSquare_116 : decode cX0_makeSquare 116 = .ok (.ireturn, 1) := by decide +kernel
theorem dX0_makeSquare_117 : decode cX0_makeSquare 117 = .ok (.iinc 3 1, 3) := by decide +kernel
theorem dX0_makeSquare_120 : decode cX0_makeSquare 120 = .ok (.goto (-52), 3) := by decide +kernel
theorem dX0_makeSquare_123 : decode cX0_makeSquare 123 = .ok (.iconst 1, 1) := by decide +kernel
theorem dX0_makeSquare_124 : decode cX0_makeSquare 124 = .ok (.ireturn, 1) := by decide +kernel
theorem dX0_lessen_0 : decode cX0_lessen 0 = .ok (.aload_n 0, 1) := by decide +kernel
theorem dX0_lessen_1 : decode cX0_lessen 1 = .ok (.getfield 24, 3) := by decide +kernel
theorem dX0_lessen_4 : decode cX0_lessen 4 = .ok (.aload_n 0, 1) := by decide +kernel
theorem dX0_lessen_5 : decode cX0_lessen 5 = .ok (.getfield 50, 3) := by decide +kernel
theorem dX0_lessen_8 : decode cX0_lessen 8 = .ok (.iconst 1, 1) := by decide +kernel
theorem dX0_lessen_9 : decode cX0_lessen 9 = .ok (.isub, 1) := by decide +kernel
theorem dX0_lessen_10 : decode cX0_lessen 10 = .ok (.aaload, 1) := by decide +kernel
theorem dX0_lessen_11 : decode cX0_lessen 11 = .ok (.astore_n 2, 1) := by decide +kernel
theorem dX0_lessen_12 : decode cX0_lessen 12 = .ok (.iconst 0, 1) := by decide +kernel
theorem dX0_lessen_13 : decode cX0_lessen 13 = .ok (.istore_n 3, 1) := by decide +kernel
theorem dX0_lessen_14 : decode cX0_lessen 14 = .ok (.iload_n 3, 1) := by decide +kernel
theorem dX0_lessen_15 : decode cX0_lessen 15 = .ok (.aload_n 0, 1) := by decide +kernel
theorem dX0_lessen_16 : decode cX0_lessen 16 = .ok (.getfield 46, 3) := by decide +kernel
theorem dX0_lessen_19 : decode cX0_lessen 19 = .ok (.if_icmp .gt 169, 3) := by decide +kernel
theorem dX0_lessen_22 : decode cX0_lessen 22 = .ok (.iload_n 3, 1) := by decide +kernel
theorem dX0_lessen_23 : decode cX0_lessen 23 = .ok (.aload_n 0, 1) := by decide +kernel
theorem dX0_lessen_24 : decode cX0_lessen 24 = .ok (.getfield 46, 3) := by decide +kernel
theorem dX0_lessen_27 : decode cX0_lessen 27 = .ok (.invokestatic 87, 3) := by decide +kernel
theorem dX0_lessen_30 : decode cX0_lessen 30 = .ok (.istore 4, 2) := by decide +kernel
theorem dX0_lessen_32 : decode cX0_lessen 32 = .ok (.iload_n 3, 1) := by decide +kernel
theorem dX0_lessen_33 : decode cX0_lessen 33 = .ok (.istore 5, 2) := by decide +kernel
theorem dX0_lessen_35 : decode cX0_lessen 35 = .ok (.iload 5, 2) := by decide +kernel
theorem dX0_lessen_37 : decode cX0_lessen 37 = .ok (.aload_n 0, 1) := by decide +kernel
theorem dX0_lessen_38 : decode cX0_lessen 38 = .ok (.getfield 46, 3) := by decide +kernel
theorem dX0_lessen_41 : decode cX0_lessen 41 = .ok (.if_icmp .gt 141, 3) := by decide +kernel
theorem dX0_lessen_44 : decode cX0_lessen 44 = .ok (.iload 5, 2) := by decide +kernel
theorem dX0_lessen_46 : decode cX0_lessen 46 = .ok (.aload_n 0, 1) := by decide +kernel
theorem dX0_lessen_47 : decode cX0_lessen 47 = .ok (.getfield 46, 3) := by decide +kernel
theorem dX0_lessen_50 : decode cX0_lessen 50 = .ok (.invokestatic 87, 3) := by decide +kernel
theorem dX0_lessen_53 : decode cX0_lessen 53 = .ok (.istore 6, 2) := by decide +kernel
theorem dX0_lessen_55 : decode cX0_lessen 55 = .ok (.aload_n 0, 1) := by decide +kernel
theorem dX0_lessen_56 : decode cX0_lessen 56 = .ok (.getfield 18, 3) := by decide +kernel
theorem dX0_lessen_59 : decode cX0_lessen 59 = .ok (.iload 4, 2) := by decide +kernel
theorem dX0_lessen_61 : decode cX0_lessen 61 = .ok (.baload, 1) := by decide +kernel
theorem dX0_lessen_62 : decode cX0_lessen 62 = .ok (.ifCond .eq 114, 3) := by decide +kernel
theorem dX0_lessen_65 : decode cX0_lessen 65 = .ok (.aload_n 0, 1) := by decide +kernel
theorem dX0_lessen_66 : decode cX0_lessen 66 = .ok (.getfield 18, 3) := by decide +kernel
theorem dX0_lessen_69 : decode cX0_lessen 69 = .ok (.iload 6, 2) := by decide +kernel
theorem dX0_lessen_71 : decode cX0_lessen 71 = .ok (.baload, 1) := by decide +kernel
theorem dX0_lessen_72 : decode cX0_lessen 72 = .ok (.ifCond .ne 6, 3) := by decide +kernel
theorem dX0_lessen_75 : decode cX0_lessen 75 = .ok (.goto 101, 3) := by decide +kernel
theorem dX0_lessen_78 : decode cX0_lessen 78 = .ok (.aload_n 0, 1) := by decide +kernel
theorem dX0_lessen_79 : decode cX0_lessen 79 = .ok (.getfield 39, 3) := by decide +kernel
theorem dX0_lessen_82 : decode cX0_lessen 82 = .ok (.aload_n 0, 1) := by decide +kernel
theorem dX0_lessen_83 : decode cX0_lessen 83 = .ok (.getfield 12, 3) := by decide +kernel
theorem dX0_lessen_86 : decode cX0_lessen 86 = .ok (.iload 4, 2) := by decide +kernel
theorem dX0_lessen_88 : decode cX0_lessen 88 = .ok (.iload_n 1, 1) := by decide +kernel
theorem dX0_lessen_89 : decode cX0_lessen 89 = .ok (.invokevirtual 91, 3) := by decide +kernel
theorem dX0_lessen_92 : decode cX0_lessen 92 = .ok (.aload_n 2, 1) := by decide +kernel
theorem dX0_lessen_93 : decode cX0_lessen 93 = .ok (.getfield 114, 3) := by decide +kernel
theorem dX0_lessen_96 : decode cX0_lessen 96 = .ok (.iload 6, 2) := by decide +kernel
theorem dX0_lessen_98 : decode cX0_lessen 98 = .ok (.aaload, 1) := by decide +kernel
theorem dX0_lessen_99 : decode cX0_lessen 99 = .ok (.invokevirtual 121, 3) := by decide +kernel
theorem dX0_lessen_102 : decode cX0_lessen 102 = .ok (.ifCond .eq 39, 3) := by decide +kernel
theorem dX0_lessen_105 : decode cX0_lessen 105 = .ok (.aload_n 0, 1) := by decide +kernel
theorem dX0_lessen_106 : decode cX0_lessen 106 = .ok (.getfield 12, 3) := by decide +kernel
theorem dX0_lessen_109 : decode cX0_lessen 109 = .ok (.iload 4, 2) := by decide +kernel
theorem dX0_lessen_111 : decode cX0_lessen 111 = .ok (.iload 6, 2) := by decide +kernel
theorem dX0_lessen_113 : decode cX0_lessen 113 = .ok (.invokevirtual 91, 3) := by decide +kernel
theorem dX0_lessen_116 : decode cX0_lessen 116 = .ok (.aload_n 0, 1) := by decide +kernel
theorem dX0_lessen_117 : decode cX0_lessen 117 = .ok (.getfield 12, 3) := by decide +kernel
theorem dX0_lessen_120 : decode cX0_lessen 120 = .ok (.iload 4, 2) := by decide +kernel
theorem dX0_lessen_122 : decode cX0_lessen 122 = .ok (.iload 6, 2) := by decide +kernel
theorem dX0_lessen_124 : decode cX0_lessen 124 = .ok (.invokevirtual 91, 3) := by decide +kernel
theorem dX0_lessen_127 : decode cX0_lessen 127 = .ok (.aload_n 0, 1) := by decide +kernel
theorem dX0_lessen_128 : decode cX0_lessen 128 = .ok (.getfield 39, 3) := by decide +kernel
theorem dX0_lessen_131 : decode cX0_lessen 131 = .ok (.invokevirtual 123, 3) := by decide +kernel
theorem dX0_lessen_134 : decode cX0_lessen 134 = .ok (.ifCond .eq 7, 3) := by decide +kernel
theorem dX0_lessen_137 : decode cX0_lessen 137 = .ok (.iconst 1, 1) := by decide +kernel
theorem dX0_lessen_138 : decode cX0_lessen 138 = .ok (.goto 4, 3) := by decide +kernel
theorem dX0_lessen_141 : decode cX0_lessen 141 = .ok (.iconst 0, 1) := by decide +kernel
theorem dX0_lessen_142 : decode cX0_lessen 142 = .ok (.istore 7, 2) := by decide +kernel
theorem dX0_lessen_144 : decode cX0_lessen 144 = .ok (.iload 7, 2) := by decide +kernel
theorem dX0_lessen_146 : decode cX0_lessen 146 = .ok (.ifCond .ne 5, 3) := by decide +kernel
theorem dX0_lessen_149 : decode cX0_lessen 149 = .ok (.iconst 0, 1) := by decide +kernel
theorem dX0_lessen_150 : decode cX0_lessen 150 = .ok (.ireturn, 1) := by decide +kernel
theorem dX0_lessen_151 : decode cX0_lessen 151 = .ok (.aload_n 0, 1) := by decide +kernel
theorem dX0_lessen_152 : decode cX0_lessen 152 = .ok (.getfield 12, 3) := by decide +kernel
theorem dX0_lessen_155 : decode cX0_lessen 155 = .ok (.iload 6, 2) := by decide +kernel
theorem dX0_lessen_157 : decode cX0_lessen 157 = .ok (.iload 4, 2) := by decide +kernel
theorem dX0_lessen_159 : decode cX0_lessen 159 = .ok (.invokevirtual 91, 3) := by decide +kernel
theorem dX0_lessen_162 : decode cX0_lessen 162 = .ok (.aload_n 0, 1) := by decide +kernel
theorem dX0_lessen_163 : decode cX0_lessen 163 = .ok (.getfield 12, 3) := by decide +kernel
theorem dX0_lessen_166 : decode cX0_lessen 166 = .ok (.iload 4, 2) := by decide +kernel
theorem dX0_lessen_168 : decode cX0_lessen 168 = .ok (.iload 6, 2) := by decide +kernel
theorem dX0_lessen_170 : decode cX0_lessen 170 = .ok (.invokevirtual 91, 3) := by decide +kernel
theorem dX0_lessen_173 : decode cX0_lessen 173 = .ok (.invokevirtual 126, 3) := by decide +kernel
theorem dX0_lessen_176 : decode cX0_lessen 176 = .ok (.iinc 5 1, 3) := by decide +kernel
theorem dX0_lessen_179 : decode cX0_lessen 179 = .ok (.goto (-144), 3) := by decide +kernel
theorem dX0_lessen_182 : decode cX0_lessen 182 = .ok (.iinc 3 1, 3) := by decide +kernel
theorem dX0_lessen_185 : decode cX0_lessen 185 = .ok (.goto (-171), 3) := by decide +kernel
theorem dX0_lessen_188 : decode cX0_lessen 188 = .ok (.iconst 1, 1) := by decide +kernel
theorem dX0_lessen_189 : decode cX0_lessen 189 = .ok (.ireturn, 1) := by decide +kernel
theorem dX0_clearWitness_0 : decode cX0_clearWitness 0 = .ok (.iconst 0, 1) := by decide +kernel
theorem dX0_clearWitness_1 : decode cX0_clearWitness 1 = .ok (.istore_n 1, 1) := by decide +kernel
theorem dX0_clearWitness_2 : decode cX0_clearWitness 2 = .ok (.iload_n 1, 1) := by decide +kernel
theorem dX0_clearWitness_3 : decode cX0_clearWitness 3 = .ok (.iconst 5, 1) := by decide +kernel
theorem dX0_clearWitness_4 : decode cX0_clearWitness 4 = .ok (.if_icmp .ge 21, 3) := by decide +kernel
theorem dX0_clearWitness_7 : decode cX0_clearWitness 7 = .ok (.aload_n 0, 1) := by decide +kernel
theorem dX0_clearWitness_8 : decode cX0_clearWitness 8 = .ok (.getfield 32, 3) := by decide +kernel
theorem dX0_clearWitness_11 : decode cX0_clearWitness 11 = .ok (.iload_n 1, 1) := by decide +kernel
theorem dX0_clearWitness_12 : decode cX0_clearWitness 12 = .ok (.aaload, 1) := by decide +kernel
theorem dX0_clearWitness_13 : decode cX0_clearWitness 13 = .ok (.lconst 0, 1) := by decide +kernel
theorem dX0_clearWitness_14 : decode cX0_clearWitness 14 = .ok (.lconst 1, 1) := by decide +kernel
theorem dX0_clearWitness_15 : decode cX0_clearWitness 15 = .ok (.invokevirtual 102, 3) := by decide +kernel
theorem dX0_clearWitness_18 : decode cX0_clearWitness 18 = .ok (.pop, 1) := by decide +kernel
theorem dX0_clearWitness_19 : decode cX0_clearWitness 19 = .ok (.iinc 1 1, 3) := by decide +kernel
theorem dX0_clearWitness_22 : decode cX0_clearWitness 22 = .ok (.goto (-20), 3) := by decide +kernel
theorem dX0_clearWitness_25 : decode cX0_clearWitness 25 = .ok (.return_, 1) := by decide +kernel
theorem dX0_goBack_0 : decode cX0_goBack 0 = .ok (.aload_n 0, 1) := by decide +kernel
theorem dX0_goBack_1 : decode cX0_goBack 1 = .ok (.getfield 50, 3) := by decide +kernel
theorem dX0_goBack_4 : decode cX0_goBack 4 = .ok (.iconst 1, 1) := by decide +kernel
theorem dX0_goBack_5 : decode cX0_goBack 5 = .ok (.isub, 1) := by decide +kernel
theorem dX0_goBack_6 : decode cX0_goBack 6 = .ok (.istore_n 1, 1) := by decide +kernel
theorem dX0_goBack_7 : decode cX0_goBack 7 = .ok (.iload_n 1, 1) := by decide +kernel
theorem dX0_goBack_8 : decode cX0_goBack 8 = .ok (.ifCond .lt 54, 3) := by decide +kernel
theorem dX0_goBack_11 : decode cX0_goBack 11 = .ok (.aload_n 0, 1) := by decide +kernel
theorem dX0_goBack_12 : decode cX0_goBack 12 = .ok (.getfield 24, 3) := by decide +kernel
theorem dX0_goBack_15 : decode cX0_goBack 15 = .ok (.iload_n 1, 1) := by decide +kernel
theorem dX0_goBack_16 : decode cX0_goBack 16 = .ok (.aaload, 1) := by decide +kernel
theorem dX0_goBack_17 : decode cX0_goBack 17 = .ok (.astore_n 2, 1) := by decide +kernel
theorem dX0_goBack_18 : decode cX0_goBack 18 = .ok (.aload_n 0, 1) := by decide +kernel
theorem dX0_goBack_19 : decode cX0_goBack 19 = .ok (.aload_n 2, 1) := by decide +kernel
theorem dX0_goBack_20 : decode cX0_goBack 20 = .ok (.invokevirtual 129, 3) := by decide +kernel
theorem dX0_goBack_23 : decode cX0_goBack 23 = .ok (.ifCond .ne 5, 3) := by decide +kernel
theorem dX0_goBack_26 : decode cX0_goBack 26 = .ok (.iconst 0, 1) := by decide +kernel
theorem dX0_goBack_27 : decode cX0_goBack 27 = .ok (.ireturn, 1) := by decide +kernel
theorem dX0_goBack_28 : decode cX0_goBack 28 = .ok (.aload_n 0, 1) := by decide +kernel
theorem dX0_goBack_29 : decode cX0_goBack 29 = .ok (.getfield 32, 3) := by decide +kernel
theorem dX0_goBack_32 : decode cX0_goBack 32 = .ok (.aload_n 2, 1) := by decide +kernel
theorem dX0_goBack_33 : decode cX0_goBack 33 = .ok (.getfield 133, 3) := by decide +kernel
theorem dX0_goBack_36 : decode cX0_goBack 36 = .ok (.aaload, 1) := by decide +kernel
theorem dX0_goBack_37 : decode cX0_goBack 37 = .ok (.aload_n 0, 1) := by decide +kernel
theorem dX0_goBack_38 : decode cX0_goBack 38 = .ok (.getfield 43, 3) := by decide +kernel
theorem dX0_goBack_41 : decode cX0_goBack 41 = .ok (.getfield 136, 3) := by decide +kernel
theorem dX0_goBack_44 : decode cX0_goBack 44 = .ok (.lneg, 1) := by decide +kernel
theorem dX0_goBack_45 : decode cX0_goBack 45 = .ok (.aload_n 0, 1) := by decide +kernel
theorem dX0_goBack_46 : decode cX0_goBack 46 = .ok (.getfield 43, 3) := by decide +kernel
theorem dX0_goBack_49 : decode cX0_goBack 49 = .ok (.getfield 140, 3) := by decide +kernel
theorem dX0_goBack_52 : decode cX0_goBack 52 = .ok (.invokevirtual 102, 3) := by decide +kernel
theorem dX0_goBack_55 : decode cX0_goBack 55 = .ok (.pop, 1) := by decide +kernel
theorem dX0_goBack_56 : decode cX0_goBack 56 = .ok (.iinc 1 (-1), 3) := by decide +kernel
theorem dX0_goBack_59 : decode cX0_goBack 59 = .ok (.goto (-52), 3) := by decide +kernel
theorem dX0_goBack_62 : decode cX0_goBack 62 = .ok (.iconst 1, 1) := by decide +kernel
theorem dX0_goBack_63 : decode cX0_goBack 63 = .ok (.ireturn, 1) := by decide +kernel
theorem dX0_sumOfOthers_0 : decode cX0_sumOfOthers 0 = .ok (.aload_n 0, 1) := by decide +kernel
theorem dX0_sumOfOthers_1 : decode cX0_sumOfOthers 1 = .ok (.getfield 43, 3) := by decide +kernel
theorem dX0_sumOfOthers_4 : decode cX0_sumOfOthers 4 = .ok (.lconst 0, 1) := by decide +kernel
theorem dX0_sumOfOthers_5 : decode cX0_sumOfOthers 5 = .ok (.lconst 1, 1) := by decide +kernel
theorem dX0_sumOfOthers_6 : decode cX0_sumOfOthers 6 = .ok (.invokevirtual 102, 3) := by decide +kernel
theorem dX0_sumOfOthers_9 : decode cX0_sumOfOthers 9 = .ok (.pop, 1) := by decide +kernel
theorem dX0_sumOfOthers_10 : decode cX0_sumOfOthers 10 = .ok (.iconst 0, 1) := by decide +kernel
theorem dX0_sumOfOthers_11 : decode cX0_sumOfOthers 11 = .ok (.istore_n 2, 1) := by decide +kernel
theorem dX0_sumOfOthers_12 : decode cX0_sumOfOthers 12 = .ok (.iload_n 2, 1) := by decide +kernel
theorem dX0_sumOfOthers_13 : decode cX0_sumOfOthers 13 = .ok (.aload_n 0, 1) := by decide +kernel
theorem dX0_sumOfOthers_14 : decode cX0_sumOfOthers 14 = .ok (.getfield 46, 3) := by decide +kernel
theorem dX0_sumOfOthers_17 : decode cX0_sumOfOthers 17 = .ok (.if_icmp .gt 71, 3) := by decide +kernel
theorem dX0_sumOfOthers_20 : decode cX0_sumOfOthers 20 = .ok (.iload_n 2, 1) := by decide +kernel
theorem dX0_sumOfOthers_21 : decode cX0_sumOfOthers 21 = .ok (.aload_n 0, 1) := by decide +kernel
theorem dX0_sumOfOthers_22 : decode cX0_sumOfOthers 22 = .ok (.getfield 46, 3) := by decide +kernel
theorem dX0_sumOfOthers_25 : decode cX0_sumOfOthers 25 = .ok (.invokestatic 87, 3) := by decide +kernel
theorem dX0_sumOfOthers_28 : decode cX0_sumOfOthers 28 = .ok (.istore_n 3, 1) := by decide +kernel
theorem dX0_sumOfOthers_29 : decode cX0_sumOfOthers 29 = .ok (.iload_n 3, 1) := by decide +kernel
theorem dX0_sumOfOthers_30 : decode cX0_sumOfOthers 30 = .ok (.aload_n 1, 1) := by decide +kernel
theorem dX0_sumOfOthers_31 : decode cX0_sumOfOthers 31 = .ok (.getfield 133, 3) := by decide +kernel
theorem dX0_sumOfOthers_34 : decode cX0_sumOfOthers 34 = .ok (.if_icmp .ne 6, 3) := by decide +kernel
theorem dX0_sumOfOthers_37 : decode cX0_sumOfOthers 37 = .ok (.goto 45, 3) := by decide +kernel
theorem dX0_sumOfOthers_40 : decode cX0_sumOfOthers 40 = .ok (.aload_n 0, 1) := by decide +kernel
theorem dX0_sumOfOthers_41 : decode cX0_sumOfOthers 41 = .ok (.getfield 39, 3) := by decide +kernel
theorem dX0_sumOfOthers_44 : decode cX0_sumOfOthers 44 = .ok (.aload_n 1, 1) := by decide +kernel
theorem dX0_sumOfOthers_45 : decode cX0_sumOfOthers 45 = .ok (.getfield 114, 3) := by decide +kernel
theorem dX0_sumOfOthers_48 : decode cX0_sumOfOthers 48 = .ok (.iload_n 3, 1) := by decide +kernel
theorem dX0_sumOfOthers_49 : decode cX0_sumOfOthers 49 = .ok (.aaload, 1) := by decide +kernel
theorem dX0_sumOfOthers_50 : decode cX0_sumOfOthers 50 = .ok (.aload_n 0, 1) := by decide +kernel
theorem dX0_sumOfOthers_51 : decode cX0_sumOfOthers 51 = .ok (.getfield 32, 3) := by decide +kernel
theorem dX0_sumOfOthers_54 : decode cX0_sumOfOthers 54 = .ok (.iload_n 3, 1) := by decide +kernel
theorem dX0_sumOfOthers_55 : decode cX0_sumOfOthers 55 = .ok (.aaload, 1) := by decide +kernel
theorem dX0_sumOfOthers_56 : decode cX0_sumOfOthers 56 = .ok (.invokevirtual 121, 3) := by decide +kernel
theorem dX0_sumOfOthers_59 : decode cX0_sumOfOthers 59 = .ok (.ifCond .eq 21, 3) := by decide +kernel
theorem dX0_sumOfOthers_62 : decode cX0_sumOfOthers 62 = .ok (.aload_n 0, 1) := by decide +kernel
theorem dX0_sumOfOthers_63 : decode cX0_sumOfOthers 63 = .ok (.getfield 43, 3) := by decide +kernel
theorem dX0_sumOfOthers_66 : decode cX0_sumOfOthers 66 = .ok (.aload_n 0, 1) := by decide +kernel
theorem dX0_sumOfOthers_67 : decode cX0_sumOfOthers 67 = .ok (.getfield 43, 3) := by decide +kernel
theorem dX0_sumOfOthers_70 : decode cX0_sumOfOthers 70 = .ok (.aload_n 0, 1) := by decide +kernel
theorem dX0_sumOfOthers_71 : decode cX0_sumOfOthers 71 = .ok (.getfield 39, 3) := by decide +kernel
theorem dX0_sumOfOthers_74 : decode cX0_sumOfOthers 74 = .ok (.invokevirtual 143, 3) := by decide +kernel
theorem dX0_sumOfOthers_77 : decode cX0_sumOfOthers 77 = .ok (.ifCond .ne 5, 3) := by decide +kernel
theorem dX0_sumOfOthers_80 : decode cX0_sumOfOthers 80 = .ok (.iconst 0, 1) := by decide +kernel
theorem dX0_sumOfOthers_81 : decode cX0_sumOfOthers 81 = .ok (.ireturn, 1) := by decide +kernel
theorem dX0_sumOfOthers_82 : decode cX0_sumOfOthers 82 = .ok (.iinc 2 1, 3) := by decide +kernel
theorem dX0_sumOfOthers_85 : decode cX0_sumOfOthers 85 = .ok (.goto (-73), 3) := by decide +kernel
theorem dX0_sumOfOthers_88 : decode cX0_sumOfOthers 88 = .ok (.iconst 1, 1) := by decide +kernel
theorem dX0_sumOfOthers_89 : decode cX0_sumOfOthers 89 = .ok (.ireturn, 1) := by decide +kernel
theorem dX1_init_0 : decode cX1_init 0 = .ok (.aload_n 0, 1) := by decide +kernel
theorem dX1_init_1 : decode cX1_init 1 = .ok (.invokespecial 3, 3) := by decide +kernel
theorem dX1_init_4 : decode cX1_init 4 = .ok (.aload_n 0, 1) := by decide +kernel
theorem dX1_init_5 : decode cX1_init 5 = .ok (.bipush 25, 2) := by decide +kernel
theorem dX1_init_7 : decode cX1_init 7 = .ok (.newarray .int, 2) := by decide +kernel
theorem dX1_init_9 : decode cX1_init 9 = .ok (.putfield 9, 3) := by decide +kernel
theorem dX1_init_12 : decode cX1_init 12 = .ok (.return_, 1) := by decide +kernel
theorem dX1_clear_0 : decode cX1_clear 0 = .ok (.aload_n 0, 1) := by decide +kernel
theorem dX1_clear_1 : decode cX1_clear 1 = .ok (.getfield 9, 3) := by decide +kernel
theorem dX1_clear_4 : decode cX1_clear 4 = .ok (.iconst 0, 1) := by decide +kernel
theorem dX1_clear_5 : decode cX1_clear 5 = .ok (.invokestatic 15, 3) := by decide +kernel
theorem dX1_clear_8 : decode cX1_clear 8 = .ok (.return_, 1) := by decide +kernel
theorem dX1_number_0 : decode cX1_number 0 = .ok (.aload_n 0, 1) := by decide +kernel
theorem dX1_number_1 : decode cX1_number 1 = .ok (.getfield 9, 3) := by decide +kernel
theorem dX1_number_4 : decode cX1_number 4 = .ok (.iload_n 1, 1) := by decide +kernel
theorem dX1_number_5 : decode cX1_number 5 = .ok (.iload_n 2, 1) := by decide +kernel
theorem dX1_number_6 : decode cX1_number 6 = .ok (.invokestatic 21, 3) := by decide +kernel
theorem dX1_number_9 : decode cX1_number 9 = .ok (.iconst 5, 1) := by decide +kernel
theorem dX1_number_10 : decode cX1_number 10 = .ok (.imul, 1) := by decide +kernel
theorem dX1_number_11 : decode cX1_number 11 = .ok (.iload_n 1, 1) := by decide +kernel
theorem dX1_number_12 : decode cX1_number 12 = .ok (.iload_n 2, 1) := by decide +kernel
theorem dX1_number_13 : decode cX1_number 13 = .ok (.invokestatic 27, 3) := by decide +kernel
theorem dX1_number_16 : decode cX1_number 16 = .ok (.iadd, 1) := by decide +kernel
theorem dX1_number_17 : decode cX1_number 17 = .ok (.iaload, 1) := by decide +kernel
theorem dX1_number_18 : decode cX1_number 18 = .ok (.ireturn, 1) := by decide +kernel
theorem dX1_replace_0 : decode cX1_replace 0 = .ok (.aload_n 0, 1) := by decide +kernel
theorem dX1_replace_1 : decode cX1_replace 1 = .ok (.iload_n 1, 1) := by decide +kernel
theorem dX1_replace_2 : decode cX1_replace 2 = .ok (.iload_n 2, 1) := by decide +kernel
theorem dX1_replace_3 : decode cX1_replace 3 = .ok (.invokevirtual 30, 3) := by decide +kernel
theorem dX1_replace_6 : decode cX1_replace 6 = .ok (.istore 4, 2) := by decide +kernel
theorem dX1_replace_8 : decode cX1_replace 8 = .ok (.aload_n 0, 1) := by decide +kernel
theorem dX1_replace_9 : decode cX1_replace 9 = .ok (.getfield 9, 3) := by decide +kernel
theorem dX1_replace_12 : decode cX1_replace 12 = .ok (.iload_n 1, 1) := by decide +kernel
theorem dX1_replace_13 : decode cX1_replace 13 = .ok (.iload_n 2, 1) := by decide +kernel
theorem dX1_replace_14 : decode cX1_replace 14 = .ok (.invokestatic 21, 3) := by decide +kernel
theorem dX1_replace_17 : decode cX1_replace 17 = .ok (.iconst 5, 1) := by decide +kernel
theorem dX1_replace_18 : decode cX1_replace 18 = .ok (.imul, 1) := by decide +kernel
theorem dX1_replace_19 : decode cX1_replace 19 = .ok (.iload_n 1, 1) := by decide +kernel
theorem dX1_replace_20 : decode cX1_replace 20 = .ok (.iload_n 2, 1) := by decide +kernel
theorem dX1_replace_21 : decode cX1_replace 21 = .ok (.invokestatic 27, 3) := by decide +kernel
theorem dX1_replace_24 : decode cX1_replace 24 = .ok (.iadd, 1) := by decide +kernel
theorem dX1_replace_25 : decode cX1_replace 25 = .ok (.iload_n 3, 1) := by decide +kernel
theorem dX1_replace_26 : decode cX1_replace 26 = .ok (.iastore, 1) := by decide +kernel
theorem dX1_replace_27 : decode cX1_replace 27 = .ok (.iload 4, 2) := by decide +kernel
theorem dX1_replace_29 : decode cX1_replace 29 = .ok (.ireturn, 1) := by decide +kernel
theorem dX1_atWhole_0 : decode cX1_atWhole 0 = .ok (.lconst 0, 1) := by decide +kernel
theorem dX1_atWhole_1 : decode cX1_atWhole 1 = .ok (.lstore_n 3, 1) := by decide +kernel
theorem dX1_atWhole_2 : decode cX1_atWhole 2 = .ok (.iconst 0, 1) := by decide +kernel
theorem dX1_atWhole_3 : decode cX1_atWhole 3 = .ok (.istore 5, 2) := by decide +kernel
theorem dX1_atWhole_5 : decode cX1_atWhole 5 = .ok (.iload 5, 2) := by decide +kernel
theorem dX1_atWhole_7 : decode cX1_atWhole 7 = .ok (.iload_n 2, 1) := by decide +kernel
theorem dX1_atWhole_8 : decode cX1_atWhole 8 = .ok (.if_icmp .gt 61, 3) := by decide +kernel
theorem dX1_atWhole_11 : decode cX1_atWhole 11 = .ok (.lconst 0, 1) := by decide +kernel
theorem dX1_atWhole_12 : decode cX1_atWhole 12 = .ok (.lstore 6, 2) := by decide +kernel
theorem dX1_atWhole_14 : decode cX1_atWhole 14 = .ok (.iload 5, 2) := by decide +kernel
theorem dX1_atWhole_16 : decode cX1_atWhole 16 = .ok (.istore 8, 2) := by decide +kernel
theorem dX1_atWhole_18 : decode cX1_atWhole 18 = .ok (.iload 8, 2) := by decide +kernel
theorem dX1_atWhole_20 : decode cX1_atWhole 20 = .ok (.iload_n 2, 1) := by decide +kernel
theorem dX1_atWhole_21 : decode cX1_atWhole 21 = .ok (.if_icmp .gt 32, 3) := by decide +kernel
theorem dX1_atWhole_24 : decode cX1_atWhole 24 = .ok (.lload 6, 2) := by decide +kernel
theorem dX1_atWhole_26 : decode cX1_atWhole 26 = .ok (.aload_n 0, 1) := by decide +kernel
theorem dX1_atWhole_27 : decode cX1_atWhole 27 = .ok (.getfield 9, 3) := by decide +kernel
theorem dX1_atWhole_30 : decode cX1_atWhole 30 = .ok (.iload 5, 2) := by decide +kernel
theorem dX1_atWhole_32 : decode cX1_atWhole 32 = .ok (.iconst 5, 1) := by decide +kernel
theorem dX1_atWhole_33 : decode cX1_atWhole 33 = .ok (.imul, 1) := by decide +kernel
theorem dX1_atWhole_34 : decode cX1_atWhole 34 = .ok (.iload 8, 2) := by decide +kernel
theorem dX1_atWhole_36 : decode cX1_atWhole 36 = .ok (.iadd, 1) := by decide +kernel
theorem dX1_atWhole_37 : decode cX1_atWhole 37 = .ok (.iaload, 1) := by decide +kernel
theorem dX1_atWhole_38 : decode cX1_atWhole 38 = .ok (.i2l, 1) := by decide +kernel
theorem dX1_atWhole_39 : decode cX1_atWhole 39 = .ok (.aload_n 1, 1) := by decide +kernel
theorem dX1_atWhole_40 : decode cX1_atWhole 40 = .ok (.iload 8, 2) := by decide +kernel
theorem dX1_atWhole_42 : decode cX1_atWhole 42 = .ok (.laload, 1) := by decide +kernel
theorem dX1_atWhole_43 : decode cX1_atWhole 43 = .ok (.lmul, 1) := by decide +kernel
theorem dX1_atWhole_44 : decode cX1_atWhole 44 = .ok (.ladd, 1) := by decide +kernel
theorem dX1_atWhole_45 : decode cX1_atWhole 45 = .ok (.lstore 6, 2) := by decide +kernel
theorem dX1_atWhole_47 : decode cX1_atWhole 47 = .ok (.iinc 8 1, 3) := by decide +kernel
theorem dX1_atWhole_50 : decode cX1_atWhole 50 = .ok (.goto (-32), 3) := by decide +kernel
theorem dX1_atWhole_53 : decode cX1_atWhole 53 = .ok (.lload_n 3, 1) := by decide +kernel
theorem dX1_atWhole_54 : decode cX1_atWhole 54 = .ok (.lload 6, 2) := by decide +kernel
theorem dX1_atWhole_56 : decode cX1_atWhole 56 = .ok (.aload_n 1, 1) := by decide +kernel
theorem dX1_atWhole_57 : decode cX1_atWhole 57 = .ok (.iload 5, 2) := by decide +kernel
theorem dX1_atWhole_59 : decode cX1_atWhole 59 = .ok (.laload, 1) := by decide +kernel
theorem dX1_atWhole_60 : decode cX1_atWhole 60 = .ok (.lmul, 1) := by decide +kernel
theorem dX1_atWhole_61 : decode cX1_atWhole 61 = .ok (.ladd, 1) := by decide +kernel
theorem dX1_atWhole_62 : decode cX1_atWhole 62 = .ok (.lstore_n 3, 1) := by decide +kernel
theorem dX1_atWhole_63 : decode cX1_atWhole 63 = .ok (.iinc 5 1, 3) := by decide +kernel
theorem dX1_atWhole_66 : decode cX1_atWhole 66 = .ok (.goto (-61), 3) := by decide +kernel
theorem dX1_atWhole_69 : decode cX1_atWhole 69 = .ok (.lload_n 3, 1) := by decide +kernel
theorem dX1_atWhole_70 : decode cX1_atWhole 70 = .ok (.lreturn, 1) := by decide +kernel
theorem dX2_init_0 : decode cX2_init 0 = .ok (.aload_n 0, 1) := by decide +kernel
theorem dX2_init_1 : decode cX2_init 1 = .ok (.invokespecial 3, 3) := by decide +kernel
theorem dX2_init_4 : decode cX2_init 4 = .ok (.aload_n 0, 1) := by decide +kernel
theorem dX2_init_5 : decode cX2_init 5 = .ok (.lconst 0, 1) := by decide +kernel
theorem dX2_init_6 : decode cX2_init 6 = .ok (.putfield 9, 3) := by decide +kernel
theorem dX2_init_9 : decode cX2_init 9 = .ok (.aload_n 0, 1) := by decide +kernel
theorem dX2_init_10 : decode cX2_init 10 = .ok (.lconst 1, 1) := by decide +kernel
theorem dX2_init_11 : decode cX2_init 11 = .ok (.putfield 15, 3) := by decide +kernel
theorem dX2_init_14 : decode cX2_init 14 = .ok (.return_, 1) := by decide +kernel
theorem dX2_put_0 : decode cX2_put 0 = .ok (.lload_n 1, 1) := by decide +kernel
theorem dX2_put_1 : decode cX2_put 1 = .ok (.ldc2_w 18, 3) := by decide +kernel
theorem dX2_put_4 : decode cX2_put 4 = .ok (.lcmp, 1) := by decide +kernel
theorem dX2_put_5 : decode cX2_put 5 = .ok (.ifCond .eq 17, 3) := by decide +kernel
theorem dX2_put_8 : decode cX2_put 8 = .ok (.lload_n 3, 1) := by decide +kernel
theorem dX2_put_9 : decode cX2_put 9 = .ok (.ldc2_w 18, 3) := by decide +kernel
theorem dX2_put_12 : decode cX2_put 12 = .ok (.lcmp, 1) := by decide +kernel
theorem dX2_put_13 : decode cX2_put 13 = .ok (.ifCond .eq 9, 3) := by decide +kernel
theorem dX2_put_16 : decode cX2_put 16 = .ok (.lload_n 3, 1) := by decide +kernel
theorem dX2_put_17 : decode cX2_put 17 = .ok (.lconst 0, 1) := by decide +kernel
theorem dX2_put_18 : decode cX2_put 18 = .ok (.lcmp, 1) := by decide +kernel
theorem dX2_put_19 : decode cX2_put 19 = .ok (.ifCond .ne 5, 3) := by decide +kernel
theorem dX2_put_22 : decode cX2_put 22 = .ok (.iconst 0, 1) := by decide +kernel
theorem dX2_put_23 : decode cX2_put 23 = .ok (.ireturn, 1) := by decide +kernel
theorem dX2_put_24 : decode cX2_put 24 = .ok (.lload_n 1, 1) := by decide +kernel
theorem dX2_put_25 : decode cX2_put 25 = .ok (.lload_n 3, 1) := by decide +kernel
theorem dX2_put_26 : decode cX2_put 26 = .ok (.invokestatic 20, 3) := by decide +kernel
theorem dX2_put_29 : decode cX2_put 29 = .ok (.lstore 5, 2) := by decide +kernel
theorem dX2_put_31 : decode cX2_put 31 = .ok (.lload 5, 2) := by decide +kernel
theorem dX2_put_33 : decode cX2_put 33 = .ok (.lconst 0, 1) := by decide +kernel
theorem dX2_put_34 : decode cX2_put 34 = .ok (.lcmp, 1) := by decide +kernel
theorem dX2_put_35 : decode cX2_put 35 = .ok (.ifCond .ne 5, 3) := by decide +kernel
theorem dX2_put_38 : decode cX2_put 38 = .ok (.iconst 0, 1) := by decide +kernel
theorem dX2_put_39 : decode cX2_put 39 = .ok (.ireturn, 1) := by decide +kernel
theorem dX2_put_40 : decode cX2_put 40 = .ok (.lload_n 3, 1) := by decide +kernel
theorem dX2_put_41 : decode cX2_put 41 = .ok (.lconst 0, 1) := by decide +kernel
theorem dX2_put_42 : decode cX2_put 42 = .ok (.lcmp, 1) := by decide +kernel
theorem dX2_put_43 : decode cX2_put 43 = .ok (.ifCond .ge 8, 3) := by decide +kernel
theorem dX2_put_46 : decode cX2_put 46 = .ok (.lload 5, 2) := by decide +kernel
theorem dX2_put_48 : decode cX2_put 48 = .ok (.lneg, 1) := by decide +kernel
theorem dX2_put_49 : decode cX2_put 49 = .ok (.lstore 5, 2) := by decide +kernel
theorem dX2_put_51 : decode cX2_put 51 = .ok (.aload_n 0, 1) := by decide +kernel
theorem dX2_put_52 : decode cX2_put 52 = .ok (.lload_n 1, 1) := by decide +kernel
theorem dX2_put_53 : decode cX2_put 53 = .ok (.lload 5, 2) := by decide +kernel
theorem dX2_put_55 : decode cX2_put 55 = .ok (.ldiv, 1) := by decide +kernel
theorem dX2_put_56 : decode cX2_put 56 = .ok (.putfield 9, 3) := by decide +kernel
theorem dX2_put_59 : decode cX2_put 59 = .ok (.aload_n 0, 1) := by decide +kernel
theorem dX2_put_60 : decode cX2_put 60 = .ok (.lload_n 3, 1) := by decide +kernel
theorem dX2_put_61 : decode cX2_put 61 = .ok (.lload 5, 2) := by decide +kernel
theorem dX2_put_63 : decode cX2_put 63 = .ok (.ldiv, 1) := by decide +kernel
theorem dX2_put_64 : decode cX2_put 64 = .ok (.putfield 15, 3) := by decide +kernel
theorem dX2_put_67 : decode cX2_put 67 = .ok (.iconst 1, 1) := by decide +kernel
theorem dX2_put_68 : decode cX2_put 68 = .ok (.ireturn, 1) := by decide +kernel
theorem dX2_copy_0 : decode cX2_copy 0 = .ok (.aload_n 0, 1) := by decide +kernel
theorem dX2_copy_1 : decode cX2_copy 1 = .ok (.aload_n 1, 1) := by decide +kernel
theorem dX2_copy_2 : decode cX2_copy 2 = .ok (.getfield 9, 3) := by decide +kernel
theorem dX2_copy_5 : decode cX2_copy 5 = .ok (.putfield 9, 3) := by decide +kernel
theorem dX2_copy_8 : decode cX2_copy 8 = .ok (.aload_n 0, 1) := by decide +kernel
theorem dX2_copy_9 : decode cX2_copy 9 = .ok (.aload_n 1, 1) := by decide +kernel
theorem dX2_copy_10 : decode cX2_copy 10 = .ok (.getfield 15, 3) := by decide +kernel
theorem dX2_copy_13 : decode cX2_copy 13 = .ok (.putfield 15, 3) := by decide +kernel
theorem dX2_copy_16 : decode cX2_copy 16 = .ok (.return_, 1) := by decide +kernel
theorem dX2_sum_0 : decode cX2_sum 0 = .ok (.aload_n 0, 1) := by decide +kernel
theorem dX2_sum_1 : decode cX2_sum 1 = .ok (.aload_n 1, 1) := by decide +kernel
theorem dX2_sum_2 : decode cX2_sum 2 = .ok (.getfield 9, 3) := by decide +kernel
theorem dX2_sum_5 : decode cX2_sum 5 = .ok (.aload_n 2, 1) := by decide +kernel
theorem dX2_sum_6 : decode cX2_sum 6 = .ok (.getfield 15, 3) := by decide +kernel
theorem dX2_sum_9 : decode cX2_sum 9 = .ok (.invokestatic 24, 3) := by decide +kernel
theorem dX2_sum_12 : decode cX2_sum 12 = .ok (.aload_n 2, 1) := by decide +kernel
theorem dX2_sum_13 : decode cX2_sum 13 = .ok (.getfield 9, 3) := by decide +kernel
theorem dX2_sum_16 : decode cX2_sum 16 = .ok (.aload_n 1, 1) := by decide +kernel
theorem dX2_sum_17 : decode cX2_sum 17 = .ok (.getfield 15, 3) := by decide +kernel
theorem dX2_sum_20 : decode cX2_sum 20 = .ok (.invokestatic 24, 3) := by decide +kernel
theorem dX2_sum_23 : decode cX2_sum 23 = .ok (.invokestatic 27, 3) := by decide +kernel
theorem dX2_sum_26 : decode cX2_sum 26 = .ok (.aload_n 1, 1) := by decide +kernel
theorem dX2_sum_27 : decode cX2_sum 27 = .ok (.getfield 15, 3) := by decide +kernel
theorem dX2_sum_30 : decode cX2_sum 30 = .ok (.aload_n 2, 1) := by decide +kernel
theorem dX2_sum_31 : decode cX2_sum 31 = .ok (.getfield 15, 3) := by decide +kernel
theorem dX2_sum_34 : decode cX2_sum 34 = .ok (.invokestatic 24, 3) := by decide +kernel
theorem dX2_sum_37 : decode cX2_sum 37 = .ok (.invokevirtual 30, 3) := by decide +kernel
theorem dX2_sum_40 : decode cX2_sum 40 = .ok (.ireturn, 1) := by decide +kernel
theorem dX2_difference_0 : decode cX2_difference 0 = .ok (.aload_n 0, 1) := by decide +kernel
theorem dX2_difference_1 : decode cX2_difference 1 = .ok (.aload_n 1, 1) := by decide +kernel
theorem dX2_difference_2 : decode cX2_difference 2 = .ok (.getfield 9, 3) := by decide +kernel
theorem dX2_difference_5 : decode cX2_difference 5 = .ok (.aload_n 2, 1) := by decide +kernel
theorem dX2_difference_6 : decode cX2_difference 6 = .ok (.getfield 15, 3) := by decide +kernel
theorem dX2_difference_9 : decode cX2_difference 9 = .ok (.invokestatic 24, 3) := by decide +kernel
theorem dX2_difference_12 : decode cX2_difference 12 = .ok (.aload_n 2, 1) := by decide +kernel
theorem dX2_difference_13 : decode cX2_difference 13 = .ok (.getfield 9, 3) := by decide +kernel
theorem dX2_difference_16 : decode cX2_difference 16 = .ok (.aload_n 1, 1) := by decide +kernel
theorem dX2_difference_17 : decode cX2_difference 17 = .ok (.getfield 15, 3) := by decide +kernel
theorem dX2_difference_20 : decode cX2_difference 20 = .ok (.invokestatic 24, 3) := by decide +kernel
theorem dX2_difference_23 : decode cX2_difference 23 = .ok (.invokestatic 34, 3) := by decide +kernel
theorem dX2_difference_26 : decode cX2_difference 26 = .ok (.aload_n 1, 1) := by decide +kernel
theorem dX2_difference_27 : decode cX2_difference 27 = .ok (.getfield 15, 3) := by decide +kernel
theorem dX2_difference_30 : decode cX2_difference 30 = .ok (.aload_n 2, 1) := by decide +kernel
theorem dX2_difference_31 : decode cX2_difference 31 = .ok (.getfield 15, 3) := by decide +kernel
theorem dX2_difference_34 : decode cX2_difference 34 = .ok (.invokestatic 24, 3) := by decide +kernel
theorem dX2_difference_37 : decode cX2_difference 37 = .ok (.invokevirtual 30, 3) := by decide +kernel
theorem dX2_difference_40 : decode cX2_difference 40 = .ok (.ireturn, 1) := by decide +kernel
theorem dX2_product_0 : decode cX2_product 0 = .ok (.aload_n 0, 1) := by decide +kernel
theorem dX2_product_1 : decode cX2_product 1 = .ok (.aload_n 1, 1) := by decide +kernel
theorem dX2_product_2 : decode cX2_product 2 = .ok (.getfield 9, 3) := by decide +kernel
theorem dX2_product_5 : decode cX2_product 5 = .ok (.aload_n 2, 1) := by decide +kernel
theorem dX2_product_6 : decode cX2_product 6 = .ok (.getfield 9, 3) := by decide +kernel
theorem dX2_product_9 : decode cX2_product 9 = .ok (.invokestatic 24, 3) := by decide +kernel
theorem dX2_product_12 : decode cX2_product 12 = .ok (.aload_n 1, 1) := by decide +kernel
theorem dX2_product_13 : decode cX2_product 13 = .ok (.getfield 15, 3) := by decide +kernel
theorem dX2_product_16 : decode cX2_product 16 = .ok (.aload_n 2, 1) := by decide +kernel
theorem dX2_product_17 : decode cX2_product 17 = .ok (.getfield 15, 3) := by decide +kernel
theorem dX2_product_20 : decode cX2_product 20 = .ok (.invokestatic 24, 3) := by decide +kernel
theorem dX2_product_23 : decode cX2_product 23 = .ok (.invokevirtual 30, 3) := by decide +kernel
theorem dX2_product_26 : decode cX2_product 26 = .ok (.ireturn, 1) := by decide +kernel
theorem dX2_quotient_0 : decode cX2_quotient 0 = .ok (.aload_n 0, 1) := by decide +kernel
theorem dX2_quotient_1 : decode cX2_quotient 1 = .ok (.aload_n 1, 1) := by decide +kernel
theorem dX2_quotient_2 : decode cX2_quotient 2 = .ok (.getfield 9, 3) := by decide +kernel
theorem dX2_quotient_5 : decode cX2_quotient 5 = .ok (.aload_n 2, 1) := by decide +kernel
theorem dX2_quotient_6 : decode cX2_quotient 6 = .ok (.getfield 15, 3) := by decide +kernel
theorem dX2_quotient_9 : decode cX2_quotient 9 = .ok (.invokestatic 24, 3) := by decide +kernel
theorem dX2_quotient_12 : decode cX2_quotient 12 = .ok (.aload_n 1, 1) := by decide +kernel
theorem dX2_quotient_13 : decode cX2_quotient 13 = .ok (.getfield 15, 3) := by decide +kernel
theorem dX2_quotient_16 : decode cX2_quotient 16 = .ok (.aload_n 2, 1) := by decide +kernel
theorem dX2_quotient_17 : decode cX2_quotient 17 = .ok (.getfield 9, 3) := by decide +kernel
theorem dX2_quotient_20 : decode cX2_quotient 20 = .ok (.invokestatic 24, 3) := by decide +kernel
theorem dX2_quotient_23 : decode cX2_quotient 23 = .ok (.invokevirtual 30, 3) := by decide +kernel
theorem dX2_quotient_26 : decode cX2_quotient 26 = .ok (.ireturn, 1) := by decide +kernel
theorem dX2_sign_0 : decode cX2_sign 0 = .ok (.aload_n 0, 1) := by decide +kernel
theorem dX2_sign_1 : decode cX2_sign 1 = .ok (.getfield 9, 3) := by decide +kernel
theorem dX2_sign_4 : decode cX2_sign 4 = .ok (.lconst 0, 1) := by decide +kernel
theorem dX2_sign_5 : decode cX2_sign 5 = .ok (.invokestatic 37, 3) := by decide +kernel
theorem dX2_sign_8 : decode cX2_sign 8 = .ok (.ireturn, 1) := by decide +kernel
theorem dX2_isSame_0 : decode cX2_isSame 0 = .ok (.aload_n 0, 1) := by decide +kernel
theorem dX2_isSame_1 : decode cX2_isSame 1 = .ok (.getfield 9, 3) := by decide +kernel
theorem dX2_isSame_4 : decode cX2_isSame 4 = .ok (.aload_n 1, 1) := by decide +kernel
theorem dX2_isSame_5 : decode cX2_isSame 5 = .ok (.getfield 9, 3) := by decide +kernel
theorem dX2_isSame_8 : decode cX2_isSame 8 = .ok (.lcmp, 1) := by decide +kernel
theorem dX2_isSame_9 : decode cX2_isSame 9 = .ok (.ifCond .ne 19, 3) := by decide +kernel
theorem dX2_isSame_12 : decode cX2_isSame 12 = .ok (.aload_n 0, 1) := by decide +kernel
theorem dX2_isSame_13 : decode cX2_isSame 13 = .ok (.getfield 15, 3) := by decide +kernel
theorem dX2_isSame_16 : decode cX2_isSame 16 = .ok (.aload_n 1, 1) := by decide +kernel
theorem dX2_isSame_17 : decode cX2_isSame 17 = .ok (.getfield 15, 3) := by decide +kernel
theorem dX2_isSame_20 : decode cX2_isSame 20 = .ok (.lcmp, 1) := by decide +kernel
theorem dX2_isSame_21 : decode cX2_isSame 21 = .ok (.ifCond .ne 7, 3) := by decide +kernel
theorem dX2_isSame_24 : decode cX2_isSame 24 = .ok (.iconst 1, 1) := by decide +kernel
theorem dX2_isSame_25 : decode cX2_isSame 25 = .ok (.goto 4, 3) := by decide +kernel
theorem dX2_isSame_28 : decode cX2_isSame 28 = .ok (.iconst 0, 1) := by decide +kernel
theorem dX2_isSame_29 : decode cX2_isSame 29 = .ok (.ireturn, 1) := by decide +kernel
theorem dX2_part_0 : decode cX2_part 0 = .ok (.iload_n 1, 1) := by decide +kernel
theorem dX2_part_1 : decode cX2_part 1 = .ok (.ifCond .ne 10, 3) := by decide +kernel
theorem dX2_part_4 : decode cX2_part 4 = .ok (.aload_n 0, 1) := by decide +kernel
theorem dX2_part_5 : decode cX2_part 5 = .ok (.getfield 9, 3) := by decide +kernel
theorem dX2_part_8 : decode cX2_part 8 = .ok (.goto 7, 3) := by decide +kernel
theorem dX2_part_11 : decode cX2_part 11 = .ok (.aload_n 0, 1) := by decide +kernel
theorem dX2_part_12 : decode cX2_part 12 = .ok (.getfield 15, 3) := by decide +kernel
theorem dX2_part_15 : decode cX2_part 15 = .ok (.lreturn, 1) := by decide +kernel
theorem dX2_commonDivisor_0 : decode cX2_commonDivisor 0 = .ok (.lload_n 0, 1) := by decide +kernel
theorem dX2_commonDivisor_1 : decode cX2_commonDivisor 1 = .ok (.lconst 0, 1) := by decide +kernel
theorem dX2_commonDivisor_2 : decode cX2_commonDivisor 2 = .ok (.lcmp, 1) := by decide +kernel
theorem dX2_commonDivisor_3 : decode cX2_commonDivisor 3 = .ok (.ifCond .ge 8, 3) := by decide +kernel
theorem dX2_commonDivisor_6 : decode cX2_commonDivisor 6 = .ok (.lload_n 0, 1) := by decide +kernel
theorem dX2_commonDivisor_7 : decode cX2_commonDivisor 7 = .ok (.lneg, 1) := by decide +kernel
theorem dX2_commonDivisor_8 : decode cX2_commonDivisor 8 = .ok (.goto 4, 3) := by decide +kernel
theorem dX2_commonDivisor_11 : decode cX2_commonDivisor 11 = .ok (.lload_n 0, 1) := by decide +kernel
theorem dX2_commonDivisor_12 : decode cX2_commonDivisor 12 = .ok (.lstore 4, 2) := by decide +kernel
theorem dX2_commonDivisor_14 : decode cX2_commonDivisor 14 = .ok (.lload_n 2, 1) := by decide +kernel
theorem dX2_commonDivisor_15 : decode cX2_commonDivisor 15 = .ok (.lconst 0, 1) := by decide +kernel
theorem dX2_commonDivisor_16 : decode cX2_commonDivisor 16 = .ok (.lcmp, 1) := by decide +kernel
theorem dX2_commonDivisor_17 : decode cX2_commonDivisor 17 = .ok (.ifCond .ge 8, 3) := by decide +kernel
theorem dX2_commonDivisor_20 : decode cX2_commonDivisor 20 = .ok (.lload_n 2, 1) := by decide +kernel
theorem dX2_commonDivisor_21 : decode cX2_commonDivisor 21 = .ok (.lneg, 1) := by decide +kernel
theorem dX2_commonDivisor_22 : decode cX2_commonDivisor 22 = .ok (.goto 4, 3) := by decide +kernel
theorem dX2_commonDivisor_25 : decode cX2_commonDivisor 25 = .ok (.lload_n 2, 1) := by decide +kernel
theorem dX2_commonDivisor_26 : decode cX2_commonDivisor 26 = .ok (.lstore 6, 2) := by decide +kernel
theorem dX2_commonDivisor_28 : decode cX2_commonDivisor 28 = .ok (.iconst 0, 1) := by decide +kernel
theorem dX2_commonDivisor_29 : decode cX2_commonDivisor 29 = .ok (.istore 8, 2) := by decide +kernel
theorem dX2_commonDivisor_31 : decode cX2_commonDivisor 31 = .ok (.iload 8, 2) := by decide +kernel
theorem dX2_commonDivisor_33 : decode cX2_commonDivisor 33 = .ok (.sipush 200, 3) := by decide +kernel
theorem dX2_commonDivisor_36 : decode cX2_commonDivisor 36 = .ok (.if_icmp .ge 31, 3) := by decide +kernel
theorem dX2_commonDivisor_39 : decode cX2_commonDivisor 39 = .ok (.lload 6, 2) := by decide +kernel
theorem dX2_commonDivisor_41 : decode cX2_commonDivisor 41 = .ok (.lconst 0, 1) := by decide +kernel
theorem dX2_commonDivisor_42 : decode cX2_commonDivisor 42 = .ok (.lcmp, 1) := by decide +kernel
theorem dX2_commonDivisor_43 : decode cX2_commonDivisor 43 = .ok (.ifCond .eq 24, 3) := by decide +kernel
theorem dX2_commonDivisor_46 : decode cX2_commonDivisor 46 = .ok (.lload 4, 2) := by decide +kernel
theorem dX2_commonDivisor_48 : decode cX2_commonDivisor 48 = .ok (.lload 6, 2) := by decide +kernel
theorem dX2_commonDivisor_50 : decode cX2_commonDivisor 50 = .ok (.lrem, 1) := by decide +kernel
theorem dX2_commonDivisor_51 : decode cX2_commonDivisor 51 = .ok (.lstore 9, 2) := by decide +kernel
theorem dX2_commonDivisor_53 : decode cX2_commonDivisor 53 = .ok (.lload 6, 2) := by decide +kernel
theorem dX2_commonDivisor_55 : decode cX2_commonDivisor 55 = .ok (.lstore 4, 2) := by decide +kernel
theorem dX2_commonDivisor_57 : decode cX2_commonDivisor 57 = .ok (.lload 9, 2) := by decide +kernel
theorem dX2_commonDivisor_59 : decode cX2_commonDivisor 59 = .ok (.lstore 6, 2) := by decide +kernel
theorem dX2_commonDivisor_61 : decode cX2_commonDivisor 61 = .ok (.iinc 8 1, 3) := by decide +kernel
theorem dX2_commonDivisor_64 : decode cX2_commonDivisor 64 = .ok (.goto (-33), 3) := by decide +kernel
theorem dX2_commonDivisor_67 : decode cX2_commonDivisor 67 = .ok (.lload 4, 2) := by decide +kernel
theorem dX2_commonDivisor_69 : decode cX2_commonDivisor 69 = .ok (.lreturn, 1) := by decide +kernel
theorem dX2_times_0 : decode cX2_times 0 = .ok (.lload_n 0, 1) := by decide +kernel
theorem dX2_times_1 : decode cX2_times 1 = .ok (.lload_n 2, 1) := by decide +kernel
theorem dX2_times_2 : decode cX2_times 2 = .ok (.lmul, 1) := by decide +kernel
theorem dX2_times_3 : decode cX2_times 3 = .ok (.lstore 4, 2) := by decide +kernel
theorem dX2_times_5 : decode cX2_times 5 = .ok (.lload_n 0, 1) := by decide +kernel
theorem dX2_times_6 : decode cX2_times 6 = .ok (.lconst 0, 1) := by decide +kernel
theorem dX2_times_7 : decode cX2_times 7 = .ok (.lcmp, 1) := by decide +kernel
theorem dX2_times_8 : decode cX2_times 8 = .ok (.ifCond .eq 18, 3) := by decide +kernel
theorem dX2_times_11 : decode cX2_times 11 = .ok (.lload 4, 2) := by decide +kernel
theorem dX2_times_13 : decode cX2_times 13 = .ok (.lload_n 0, 1) := by decide +kernel
theorem dX2_times_14 : decode cX2_times 14 = .ok (.ldiv, 1) := by decide +kernel
theorem dX2_times_15 : decode cX2_times 15 = .ok (.lload_n 2, 1) := by decide +kernel
theorem dX2_times_16 : decode cX2_times 16 = .ok (.lcmp, 1) := by decide +kernel
theorem dX2_times_17 : decode cX2_times 17 = .ok (.ifCond .eq 9, 3) := by decide +kernel
theorem dX2_times_20 : decode cX2_times 20 = .ok (.ldc2_w 18, 3) := by decide +kernel
theorem dX2_times_23 : decode cX2_times 23 = .ok (.goto 5, 3) := by decide +kernel
theorem dX2_times_26 : decode cX2_times 26 = .ok (.lload 4, 2) := by decide +kernel
theorem dX2_times_28 : decode cX2_times 28 = .ok (.lreturn, 1) := by decide +kernel
theorem dX2_plus_0 : decode cX2_plus 0 = .ok (.lload_n 0, 1) := by decide +kernel
theorem dX2_plus_1 : decode cX2_plus 1 = .ok (.lload_n 2, 1) := by decide +kernel
theorem dX2_plus_2 : decode cX2_plus 2 = .ok (.ladd, 1) := by decide +kernel
theorem dX2_plus_3 : decode cX2_plus 3 = .ok (.lstore 4, 2) := by decide +kernel
theorem dX2_plus_5 : decode cX2_plus 5 = .ok (.lload_n 0, 1) := by decide +kernel
theorem dX2_plus_6 : decode cX2_plus 6 = .ok (.lload 4, 2) := by decide +kernel
theorem dX2_plus_8 : decode cX2_plus 8 = .ok (.lxor, 1) := by decide +kernel
theorem dX2_plus_9 : decode cX2_plus 9 = .ok (.lload_n 2, 1) := by decide +kernel
theorem dX2_plus_10 : decode cX2_plus 10 = .ok (.lload 4, 2) := by decide +kernel
theorem dX2_plus_12 : decode cX2_plus 12 = .ok (.lxor, 1) := by decide +kernel
theorem dX2_plus_13 : decode cX2_plus 13 = .ok (.land, 1) := by decide +kernel
theorem dX2_plus_14 : decode cX2_plus 14 = .ok (.lconst 0, 1) := by decide +kernel
theorem dX2_plus_15 : decode cX2_plus 15 = .ok (.lcmp, 1) := by decide +kernel
theorem dX2_plus_16 : decode cX2_plus 16 = .ok (.ifCond .ge 7, 3) := by decide +kernel
theorem dX2_plus_19 : decode cX2_plus 19 = .ok (.iconst 1, 1) := by decide +kernel
theorem dX2_plus_20 : decode cX2_plus 20 = .ok (.goto 4, 3) := by decide +kernel
theorem dX2_plus_23 : decode cX2_plus 23 = .ok (.iconst 0, 1) := by decide +kernel
theorem dX2_plus_24 : decode cX2_plus 24 = .ok (.istore 6, 2) := by decide +kernel
theorem dX2_plus_26 : decode cX2_plus 26 = .ok (.iload 6, 2) := by decide +kernel
theorem dX2_plus_28 : decode cX2_plus 28 = .ok (.ifCond .ne 19, 3) := by decide +kernel
theorem dX2_plus_31 : decode cX2_plus 31 = .ok (.lload_n 0, 1) := by decide +kernel
theorem dX2_plus_32 : decode cX2_plus 32 = .ok (.ldc2_w 18, 3) := by decide +kernel
theorem dX2_plus_35 : decode cX2_plus 35 = .ok (.lcmp, 1) := by decide +kernel
theorem dX2_plus_36 : decode cX2_plus 36 = .ok (.ifCond .eq 11, 3) := by decide +kernel
theorem dX2_plus_39 : decode cX2_plus 39 = .ok (.lload_n 2, 1) := by decide +kernel
theorem dX2_plus_40 : decode cX2_plus 40 = .ok (.ldc2_w 18, 3) := by decide +kernel
theorem dX2_plus_43 : decode cX2_plus 43 = .ok (.lcmp, 1) := by decide +kernel
theorem dX2_plus_44 : decode cX2_plus 44 = .ok (.ifCond .ne 9, 3) := by decide +kernel
theorem dX2_plus_47 : decode cX2_plus 47 = .ok (.ldc2_w 18, 3) := by decide +kernel
theorem dX2_plus_50 : decode cX2_plus 50 = .ok (.goto 5, 3) := by decide +kernel
theorem dX2_plus_53 : decode cX2_plus 53 = .ok (.lload 4, 2) := by decide +kernel
theorem dX2_plus_55 : decode cX2_plus 55 = .ok (.lreturn, 1) := by decide +kernel
theorem dX2_minus_0 : decode cX2_minus 0 = .ok (.lload_n 0, 1) := by decide +kernel
theorem dX2_minus_1 : decode cX2_minus 1 = .ok (.lload_n 2, 1) := by decide +kernel
theorem dX2_minus_2 : decode cX2_minus 2 = .ok (.lsub, 1) := by decide +kernel
theorem dX2_minus_3 : decode cX2_minus 3 = .ok (.lstore 4, 2) := by decide +kernel
theorem dX2_minus_5 : decode cX2_minus 5 = .ok (.lload_n 0, 1) := by decide +kernel
theorem dX2_minus_6 : decode cX2_minus 6 = .ok (.lload_n 2, 1) := by decide +kernel
theorem dX2_minus_7 : decode cX2_minus 7 = .ok (.lxor, 1) := by decide +kernel
theorem dX2_minus_8 : decode cX2_minus 8 = .ok (.lload_n 0, 1) := by decide +kernel
theorem dX2_minus_9 : decode cX2_minus 9 = .ok (.lload 4, 2) := by decide +kernel
theorem dX2_minus_11 : decode cX2_minus 11 = .ok (.lxor, 1) := by decide +kernel
theorem dX2_minus_12 : decode cX2_minus 12 = .ok (.land, 1) := by decide +kernel
theorem dX2_minus_13 : decode cX2_minus 13 = .ok (.lconst 0, 1) := by decide +kernel
theorem dX2_minus_14 : decode cX2_minus 14 = .ok (.lcmp, 1) := by decide +kernel
theorem dX2_minus_15 : decode cX2_minus 15 = .ok (.ifCond .ge 7, 3) := by decide +kernel
theorem dX2_minus_18 : decode cX2_minus 18 = .ok (.iconst 1, 1) := by decide +kernel
theorem dX2_minus_19 : decode cX2_minus 19 = .ok (.goto 4, 3) := by decide +kernel
theorem dX2_minus_22 : decode cX2_minus 22 = .ok (.iconst 0, 1) := by decide +kernel
theorem dX2_minus_23 : decode cX2_minus 23 = .ok (.istore 6, 2) := by decide +kernel
theorem dX2_minus_25 : decode cX2_minus 25 = .ok (.iload 6, 2) := by decide +kernel
theorem dX2_minus_27 : decode cX2_minus 27 = .ok (.ifCond .ne 19, 3) := by decide +kernel
theorem dX2_minus_30 : decode cX2_minus 30 = .ok (.lload_n 0, 1) := by decide +kernel
theorem dX2_minus_31 : decode cX2_minus 31 = .ok (.ldc2_w 18, 3) := by decide +kernel
theorem dX2_minus_34 : decode cX2_minus 34 = .ok (.lcmp, 1) := by decide +kernel
theorem dX2_minus_35 : decode cX2_minus 35 = .ok (.ifCond .eq 11, 3) := by decide +kernel
theorem dX2_minus_38 : decode cX2_minus 38 = .ok (.lload_n 2, 1) := by decide +kernel
theorem dX2_minus_39 : decode cX2_minus 39 = .ok (.ldc2_w 18, 3) := by decide +kernel
theorem dX2_minus_42 : decode cX2_minus 42 = .ok (.lcmp, 1) := by decide +kernel
theorem dX2_minus_43 : decode cX2_minus 43 = .ok (.ifCond .ne 9, 3) := by decide +kernel
theorem dX2_minus_46 : decode cX2_minus 46 = .ok (.ldc2_w 18, 3) := by decide +kernel
theorem dX2_minus_49 : decode cX2_minus 49 = .ok (.goto 5, 3) := by decide +kernel
theorem dX2_minus_52 : decode cX2_minus 52 = .ok (.lload 4, 2) := by decide +kernel
theorem dX2_minus_54 : decode cX2_minus 54 = .ok (.lreturn, 1) := by decide +kernel
theorem dX3_init_0 : decode cX3_init 0 = .ok (.aload_n 0, 1) := by decide +kernel
theorem dX3_init_1 : decode cX3_init 1 = .ok (.invokespecial 3, 3) := by decide +kernel
theorem dX3_init_4 : decode cX3_init 4 = .ok (.aload_n 0, 1) := by decide +kernel
theorem dX3_init_5 : decode cX3_init 5 = .ok (.bipush 25, 2) := by decide +kernel
theorem dX3_init_7 : decode cX3_init 7 = .ok (.invokestatic 9, 3) := by decide +kernel
theorem dX3_init_10 : decode cX3_init 10 = .ok (.putfield 13, 3) := by decide +kernel
theorem dX3_init_13 : decode cX3_init 13 = .ok (.aload_n 0, 1) := by decide +kernel
theorem dX3_init_14 : decode cX3_init 14 = .ok (.new 19, 3) := by decide +kernel
theorem dX3_init_17 : decode cX3_init 17 = .ok (.dup, 1) := by decide +kernel
theorem dX3_init_18 : decode cX3_init 18 = .ok (.invokespecial 21, 3) := by decide +kernel
theorem dX3_init_21 : decode cX3_init 21 = .ok (.putfield 22, 3) := by decide +kernel
theorem dX3_init_24 : decode cX3_init 24 = .ok (.return_, 1) := by decide +kernel
theorem dX3_at_0 : decode cX3_at 0 = .ok (.aload_n 0, 1) := by decide +kernel
theorem dX3_at_1 : decode cX3_at 1 = .ok (.getfield 13, 3) := by decide +kernel
theorem dX3_at_4 : decode cX3_at 4 = .ok (.iload_n 1, 1) := by decide +kernel
theorem dX3_at_5 : decode cX3_at 5 = .ok (.iconst 5, 1) := by decide +kernel
theorem dX3_at_6 : decode cX3_at 6 = .ok (.imul, 1) := by decide +kernel
theorem dX3_at_7 : decode cX3_at 7 = .ok (.iload_n 2, 1) := by decide +kernel
theorem dX3_at_8 : decode cX3_at 8 = .ok (.iadd, 1) := by decide +kernel
theorem dX3_at_9 : decode cX3_at 9 = .ok (.aaload, 1) := by decide +kernel
theorem dX3_at_10 : decode cX3_at 10 = .ok (.areturn, 1) := by decide +kernel
theorem dX3_take_0 : decode cX3_take 0 = .ok (.iconst 0, 1) := by decide +kernel
theorem dX3_take_1 : decode cX3_take 1 = .ok (.istore_n 3, 1) := by decide +kernel
theorem dX3_take_2 : decode cX3_take 2 = .ok (.iload_n 3, 1) := by decide +kernel
theorem dX3_take_3 : decode cX3_take 3 = .ok (.iload_n 2, 1) := by decide +kernel
theorem dX3_take_4 : decode cX3_take 4 = .ok (.if_icmp .gt 56, 3) := by decide +kernel
theorem dX3_take_7 : decode cX3_take 7 = .ok (.iconst 0, 1) := by decide +kernel
theorem dX3_take_8 : decode cX3_take 8 = .ok (.istore 4, 2) := by decide +kernel
theorem dX3_take_10 : decode cX3_take 10 = .ok (.iload 4, 2) := by decide +kernel
theorem dX3_take_12 : decode cX3_take 12 = .ok (.iload_n 2, 1) := by decide +kernel
theorem dX3_take_13 : decode cX3_take 13 = .ok (.if_icmp .gt 41, 3) := by decide +kernel
theorem dX3_take_16 : decode cX3_take 16 = .ok (.aload_n 0, 1) := by decide +kernel
theorem dX3_take_17 : decode cX3_take 17 = .ok (.iload_n 3, 1) := by decide +kernel
theorem dX3_take_18 : decode cX3_take 18 = .ok (.iload 4, 2) := by decide +kernel
theorem dX3_take_20 : decode cX3_take 20 = .ok (.invokevirtual 26, 3) := by decide +kernel
theorem dX3_take_23 : decode cX3_take 23 = .ok (.aload_n 1, 1) := by decide +kernel
theorem dX3_take_24 : decode cX3_take 24 = .ok (.iload_n 3, 1) := by decide +kernel
theorem dX3_take_25 : decode cX3_take 25 = .ok (.iload 4, 2) := by decide +kernel
theorem dX3_take_27 : decode cX3_take 27 = .ok (.invokevirtual 30, 3) := by decide +kernel
theorem dX3_take_30 : decode cX3_take 30 = .ok (.i2l, 1) := by decide +kernel
theorem dX3_take_31 : decode cX3_take 31 = .ok (.iload_n 3, 1) := by decide +kernel
theorem dX3_take_32 : decode cX3_take 32 = .ok (.iload 4, 2) := by decide +kernel
theorem dX3_take_34 : decode cX3_take 34 = .ok (.if_icmp .ne 7, 3) := by decide +kernel
theorem dX3_take_37 : decode cX3_take 37 = .ok (.lconst 1, 1) := by decide +kernel
theorem dX3_take_38 : decode cX3_take 38 = .ok (.goto 6, 3) := by decide +kernel
theorem dX3_take_41 : decode cX3_take 41 = .ok (.ldc2_w 36, 3) := by decide +kernel
theorem dX3_take_44 : decode cX3_take 44 = .ok (.invokevirtual 38, 3) := by decide +kernel
theorem dX3_take_47 : decode cX3_take 47 = .ok (.pop, 1) := by decide +kernel
theorem dX3_take_48 : decode cX3_take 48 = .ok (.iinc 4 1, 3) := by decide +kernel
theorem dX3_take_51 : decode cX3_take 51 = .ok (.goto (-41), 3) := by decide +kernel
theorem dX3_take_54 : decode cX3_take 54 = .ok (.iinc 3 1, 3) := by decide +kernel
theorem dX3_take_57 : decode cX3_take 57 = .ok (.goto (-55), 3) := by decide +kernel
theorem dX3_take_60 : decode cX3_take 60 = .ok (.return_, 1) := by decide +kernel
theorem dX3_takeLess_0 : decode cX3_takeLess 0 = .ok (.aload_n 0, 1) := by decide +kernel
theorem dX3_takeLess_1 : decode cX3_takeLess 1 = .ok (.aload_n 1, 1) := by decide +kernel
theorem dX3_takeLess_2 : decode cX3_takeLess 2 = .ok (.iload 4, 2) := by decide +kernel
theorem dX3_takeLess_4 : decode cX3_takeLess 4 = .ok (.invokevirtual 42, 3) := by decide +kernel
theorem dX3_takeLess_7 : decode cX3_takeLess 7 = .ok (.iconst 0, 1) := by decide +kernel
theorem dX3_takeLess_8 : decode cX3_takeLess 8 = .ok (.istore 5, 2) := by decide +kernel
theorem dX3_takeLess_10 : decode cX3_takeLess 10 = .ok (.iload 5, 2) := by decide +kernel
theorem dX3_takeLess_12 : decode cX3_takeLess 12 = .ok (.iload 4, 2) := by decide +kernel
theorem dX3_takeLess_14 : decode cX3_takeLess 14 = .ok (.if_icmp .gt 133, 3) := by decide +kernel
theorem dX3_takeLess_17 : decode cX3_takeLess 17 = .ok (.iload 5, 2) := by decide +kernel
theorem dX3_takeLess_19 : decode cX3_takeLess 19 = .ok (.istore 6, 2) := by decide +kernel
theorem dX3_takeLess_21 : decode cX3_takeLess 21 = .ok (.iload 6, 2) := by decide +kernel
theorem dX3_takeLess_23 : decode cX3_takeLess 23 = .ok (.iload 4, 2) := by decide +kernel
theorem dX3_takeLess_25 : decode cX3_takeLess 25 = .ok (.if_icmp .gt 116, 3) := by decide +kernel
theorem dX3_takeLess_28 : decode cX3_takeLess 28 = .ok (.aload_n 0, 1) := by decide +kernel
theorem dX3_takeLess_29 : decode cX3_takeLess 29 = .ok (.getfield 22, 3) := by decide +kernel
theorem dX3_takeLess_32 : decode cX3_takeLess 32 = .ok (.aload_n 2, 1) := by decide +kernel
theorem dX3_takeLess_33 : decode cX3_takeLess 33 = .ok (.iload 5, 2) := by decide +kernel
theorem dX3_takeLess_35 : decode cX3_takeLess 35 = .ok (.iload 6, 2) := by decide +kernel
theorem dX3_takeLess_37 : decode cX3_takeLess 37 = .ok (.invokevirtual 30, 3) := by decide +kernel
theorem dX3_takeLess_40 : decode cX3_takeLess 40 = .ok (.i2l, 1) := by decide +kernel
theorem dX3_takeLess_41 : decode cX3_takeLess 41 = .ok (.iload 5, 2) := by decide +kernel
theorem dX3_takeLess_43 : decode cX3_takeLess 43 = .ok (.iload 6, 2) := by decide +kernel
theorem dX3_takeLess_45 : decode cX3_takeLess 45 = .ok (.if_icmp .ne 7, 3) := by decide +kernel
theorem dX3_takeLess_48 : decode cX3_takeLess 48 = .ok (.lconst 1, 1) := by decide +kernel
theorem dX3_takeLess_49 : decode cX3_takeLess 49 = .ok (.goto 6, 3) := by decide +kernel
theorem dX3_takeLess_52 : decode cX3_takeLess 52 = .ok (.ldc2_w 36, 3) := by decide +kernel
theorem dX3_takeLess_55 : decode cX3_takeLess 55 = .ok (.invokevirtual 38, 3) := by decide +kernel
theorem dX3_takeLess_58 : decode cX3_takeLess 58 = .ok (.ifCond .eq 48, 3) := by decide +kernel
theorem dX3_takeLess_61 : decode cX3_takeLess 61 = .ok (.aload_n 0, 1) := by decide +kernel
theorem dX3_takeLess_62 : decode cX3_takeLess 62 = .ok (.getfield 22, 3) := by decide +kernel
theorem dX3_takeLess_65 : decode cX3_takeLess 65 = .ok (.aload_n 3, 1) := by decide +kernel
theorem dX3_takeLess_66 : decode cX3_takeLess 66 = .ok (.aload_n 0, 1) := by decide +kernel
theorem dX3_takeLess_67 : decode cX3_takeLess 67 = .ok (.getfield 22, 3) := by decide +kernel
theorem dX3_takeLess_70 : decode cX3_takeLess 70 = .ok (.invokevirtual 46, 3) := by decide +kernel
theorem dX3_takeLess_73 : decode cX3_takeLess 73 = .ok (.ifCond .eq 33, 3) := by decide +kernel
theorem dX3_takeLess_76 : decode cX3_takeLess 76 = .ok (.aload_n 0, 1) := by decide +kernel
theorem dX3_takeLess_77 : decode cX3_takeLess 77 = .ok (.iload 5, 2) := by decide +kernel
theorem dX3_takeLess_79 : decode cX3_takeLess 79 = .ok (.iload 6, 2) := by decide +kernel
theorem dX3_takeLess_81 : decode cX3_takeLess 81 = .ok (.invokevirtual 26, 3) := by decide +kernel
theorem dX3_takeLess_84 : decode cX3_takeLess 84 = .ok (.aload_n 0, 1) := by decide +kernel
theorem dX3_takeLess_85 : decode cX3_takeLess 85 = .ok (.iload 5, 2) := by decide +kernel
theorem dX3_takeLess_87 : decode cX3_takeLess 87 = .ok (.iload 6, 2) := by decide +kernel
theorem dX3_takeLess_89 : decode cX3_takeLess 89 = .ok (.invokevirtual 26, 3) := by decide +kernel
theorem dX3_takeLess_92 : decode cX3_takeLess 92 = .ok (.aload_n 0, 1) := by decide +kernel
theorem dX3_takeLess_93 : decode cX3_takeLess 93 = .ok (.getfield 22, 3) := by decide +kernel
theorem dX3_takeLess_96 : decode cX3_takeLess 96 = .ok (.invokevirtual 50, 3) := by decide +kernel
theorem dX3_takeLess_99 : decode cX3_takeLess 99 = .ok (.ifCond .eq 7, 3) := by decide +kernel
theorem dX3_takeLess_102 : decode cX3_takeLess 102 = .ok (.iconst 1, 1) := by decide +kernel
theorem dX3_takeLess_103 : decode cX3_takeLess 103 = .ok (.goto 4, 3) := by decide +kernel
theorem dX3_takeLess_106 : decode cX3_takeLess 106 = .ok (.iconst 0, 1) := by decide +kernel
theorem dX3_takeLess_107 : decode cX3_takeLess 107 = .ok (.istore 7, 2) := by decide +kernel
theorem dX3_takeLess_109 : decode cX3_takeLess 109 = .ok (.iload 7, 2) := by decide +kernel
theorem dX3_takeLess_111 : decode cX3_takeLess 111 = .ok (.ifCond .ne 5, 3) := by decide +kernel
theorem dX3_takeLess_114 : decode cX3_takeLess 114 = .ok (.iconst 0, 1) := by decide +kernel
theorem dX3_takeLess_115 : decode cX3_takeLess 115 = .ok (.ireturn, 1) := by decide +kernel
theorem dX3_takeLess_116 : decode cX3_takeLess 116 = .ok (.aload_n 0, 1) := by decide +kernel
theorem dX3_takeLess_117 : decode cX3_takeLess 117 = .ok (.iload 6, 2) := by decide +kernel
theorem dX3_takeLess_119 : decode cX3_takeLess 119 = .ok (.iload 5, 2) := by decide +kernel
theorem dX3_takeLess_121 : decode cX3_takeLess 121 = .ok (.invokevirtual 26, 3) := by decide +kernel
theorem dX3_takeLess_124 : decode cX3_takeLess 124 = .ok (.aload_n 0, 1) := by decide +kernel
theorem dX3_takeLess_125 : decode cX3_takeLess 125 = .ok (.iload 5, 2) := by decide +kernel
theorem dX3_takeLess_127 : decode cX3_takeLess 127 = .ok (.iload 6, 2) := by decide +kernel
theorem dX3_takeLess_129 : decode cX3_takeLess 129 = .ok (.invokevirtual 26, 3) := by decide +kernel
theorem dX3_takeLess_132 : decode cX3_takeLess 132 = .ok (.invokevirtual 53, 3) := by decide +kernel
theorem dX3_takeLess_135 : decode cX3_takeLess 135 = .ok (.iinc 6 1, 3) := by decide +kernel
theorem dX3_takeLess_138 : decode cX3_takeLess 138 = .ok (.goto (-117), 3) := by decide +kernel
theorem dX3_takeLess_141 : decode cX3_takeLess 141 = .ok (.iinc 5 1, 3) := by decide +kernel
theorem dX3_takeLess_144 : decode cX3_takeLess 144 = .ok (.goto (-134), 3) := by decide +kernel
theorem dX3_takeLess_147 : decode cX3_takeLess 147 = .ok (.iconst 1, 1) := by decide +kernel
theorem dX3_takeLess_148 : decode cX3_takeLess 148 = .ok (.ireturn, 1) := by decide +kernel
theorem dX3_copy_0 : decode cX3_copy 0 = .ok (.iconst 0, 1) := by decide +kernel
theorem dX3_copy_1 : decode cX3_copy 1 = .ok (.istore_n 2, 1) := by decide +kernel
theorem dX3_copy_2 : decode cX3_copy 2 = .ok (.iload_n 2, 1) := by decide +kernel
theorem dX3_copy_3 : decode cX3_copy 3 = .ok (.aload_n 0, 1) := by decide +kernel
theorem dX3_copy_4 : decode cX3_copy 4 = .ok (.getfield 13, 3) := by decide +kernel
theorem dX3_copy_7 : decode cX3_copy 7 = .ok (.arraylength, 1) := by decide +kernel
theorem dX3_copy_8 : decode cX3_copy 8 = .ok (.if_icmp .ge 24, 3) := by decide +kernel
theorem dX3_copy_11 : decode cX3_copy 11 = .ok (.aload_n 0, 1) := by decide +kernel
theorem dX3_copy_12 : decode cX3_copy 12 = .ok (.getfield 13, 3) := by decide +kernel
theorem dX3_copy_15 : decode cX3_copy 15 = .ok (.iload_n 2, 1) := by decide +kernel
theorem dX3_copy_16 : decode cX3_copy 16 = .ok (.aaload, 1) := by decide +kernel
theorem dX3_copy_17 : decode cX3_copy 17 = .ok (.aload_n 1, 1) := by decide +kernel
theorem dX3_copy_18 : decode cX3_copy 18 = .ok (.getfield 13, 3) := by decide +kernel
theorem dX3_copy_21 : decode cX3_copy 21 = .ok (.iload_n 2, 1) := by decide +kernel
theorem dX3_copy_22 : decode cX3_copy 22 = .ok (.aaload, 1) := by decide +kernel
theorem dX3_copy_23 : decode cX3_copy 23 = .ok (.invokevirtual 53, 3) := by decide +kernel
theorem dX3_copy_26 : decode cX3_copy 26 = .ok (.iinc 2 1, 3) := by decide +kernel
theorem dX3_copy_29 : decode cX3_copy 29 = .ok (.goto (-27), 3) := by decide +kernel
theorem dX3_copy_32 : decode cX3_copy 32 = .ok (.return_, 1) := by decide +kernel
theorem dX4_init_0 : decode cX4_init 0 = .ok (.aload_n 0, 1) := by decide +kernel
theorem dX4_init_1 : decode cX4_init 1 = .ok (.invokespecial 3, 3) := by decide +kernel
theorem dX4_init_4 : decode cX4_init 4 = .ok (.aload_n 0, 1) := by decide +kernel
theorem dX4_init_5 : decode cX4_init 5 = .ok (.iconst 5, 1) := by decide +kernel
theorem dX4_init_6 : decode cX4_init 6 = .ok (.invokestatic 9, 3) := by decide +kernel
theorem dX4_init_9 : decode cX4_init 9 = .ok (.putfield 13, 3) := by decide +kernel
theorem dX4_init_12 : decode cX4_init 12 = .ok (.aload_n 0, 1) := by decide +kernel
theorem dX4_init_13 : decode cX4_init 13 = .ok (.new 19, 3) := by decide +kernel
theorem dX4_init_16 : decode cX4_init 16 = .ok (.dup, 1) := by decide +kernel
theorem dX4_init_17 : decode cX4_init 17 = .ok (.invokespecial 21, 3) := by decide +kernel
theorem dX4_init_20 : decode cX4_init 20 = .ok (.putfield 22, 3) := by decide +kernel
theorem dX4_init_23 : decode cX4_init 23 = .ok (.aload_n 0, 1) := by decide +kernel
theorem dX4_init_24 : decode cX4_init 24 = .ok (.new 19, 3) := by decide +kernel
theorem dX4_init_27 : decode cX4_init 27 = .ok (.dup, 1) := by decide +kernel
theorem dX4_init_28 : decode cX4_init 28 = .ok (.invokespecial 21, 3) := by decide +kernel
theorem dX4_init_31 : decode cX4_init 31 = .ok (.putfield 26, 3) := by decide +kernel
theorem dX4_init_34 : decode cX4_init 34 = .ok (.aload_n 0, 1) := by decide +kernel
theorem dX4_init_35 : decode cX4_init 35 = .ok (.iconst 0, 1) := by decide +kernel
theorem dX4_init_36 : decode cX4_init 36 = .ok (.putfield 29, 3) := by decide +kernel
theorem dX4_init_39 : decode cX4_init 39 = .ok (.aload_n 0, 1) := by decide +kernel
theorem dX4_init_40 : decode cX4_init 40 = .ok (.getfield 13, 3) := by decide +kernel
theorem dX4_init_43 : decode cX4_init 43 = .ok (.iconst 0, 1) := by decide +kernel
theorem dX4_init_44 : decode cX4_init 44 = .ok (.aaload, 1) := by decide +kernel
theorem dX4_init_45 : decode cX4_init 45 = .ok (.lconst 1, 1) := by decide +kernel
theorem dX4_init_46 : decode cX4_init 46 = .ok (.lconst 1, 1) := by decide +kernel
theorem dX4_init_47 : decode cX4_init 47 = .ok (.invokevirtual 33, 3) := by decide +kernel
theorem dX4_init_50 : decode cX4_init 50 = .ok (.pop, 1) := by decide +kernel
theorem dX4_init_51 : decode cX4_init 51 = .ok (.return_, 1) := by decide +kernel
theorem dX4_byWitness_0 : decode cX4_byWitness 0 = .ok (.aload_n 1, 1) := by decide +kernel
theorem dX4_byWitness_1 : decode cX4_byWitness 1 = .ok (.iconst 0, 1) := by decide +kernel
theorem dX4_byWitness_2 : decode cX4_byWitness 2 = .ok (.aaload, 1) := by decide +kernel
theorem dX4_byWitness_3 : decode cX4_byWitness 3 = .ok (.invokevirtual 37, 3) := by decide +kernel
theorem dX4_byWitness_6 : decode cX4_byWitness 6 = .ok (.ifCond .eq 10, 3) := by decide +kernel
theorem dX4_byWitness_9 : decode cX4_byWitness 9 = .ok (.aload_n 0, 1) := by decide +kernel
theorem dX4_byWitness_10 : decode cX4_byWitness 10 = .ok (.aload_n 1, 1) := by decide +kernel
theorem dX4_byWitness_11 : decode cX4_byWitness 11 = .ok (.iload_n 3, 1) := by decide +kernel
theorem dX4_byWitness_12 : decode cX4_byWitness 12 = .ok (.invokevirtual 41, 3) := by decide +kernel
theorem dX4_byWitness_15 : decode cX4_byWitness 15 = .ok (.ireturn, 1) := by decide +kernel
theorem dX4_byWitness_16 : decode cX4_byWitness 16 = .ok (.iconst 0, 1) := by decide +kernel
theorem dX4_byWitness_17 : decode cX4_byWitness 17 = .ok (.istore 4, 2) := by decide +kernel
theorem dX4_byWitness_19 : decode cX4_byWitness 19 = .ok (.iload 4, 2) := by decide +kernel
theorem dX4_byWitness_21 : decode cX4_byWitness 21 = .ok (.bipush 40, 2) := by decide +kernel
theorem dX4_byWitness_23 : decode cX4_byWitness 23 = .ok (.if_icmp .gt 45, 3) := by decide +kernel
theorem dX4_byWitness_26 : decode cX4_byWitness 26 = .ok (.aload_n 0, 1) := by decide +kernel
theorem dX4_byWitness_27 : decode cX4_byWitness 27 = .ok (.aload_n 1, 1) := by decide +kernel
theorem dX4_byWitness_28 : decode cX4_byWitness 28 = .ok (.lconst 1, 1) := by decide +kernel
theorem dX4_byWitness_29 : decode cX4_byWitness 29 = .ok (.iload 4, 2) := by decide +kernel
theorem dX4_byWitness_31 : decode cX4_byWitness 31 = .ok (.lshl, 1) := by decide +kernel
theorem dX4_byWitness_32 : decode cX4_byWitness 32 = .ok (.iload_n 3, 1) := by decide +kernel
theorem dX4_byWitness_33 : decode cX4_byWitness 33 = .ok (.invokevirtual 45, 3) := by decide +kernel
theorem dX4_byWitness_36 : decode cX4_byWitness 36 = .ok (.ifCond .eq 12, 3) := by decide +kernel
theorem dX4_byWitness_39 : decode cX4_byWitness 39 = .ok (.aload_n 0, 1) := by decide +kernel
theorem dX4_byWitness_40 : decode cX4_byWitness 40 = .ok (.aload_n 2, 1) := by decide +kernel
theorem dX4_byWitness_41 : decode cX4_byWitness 41 = .ok (.iload_n 3, 1) := by decide +kernel
theorem dX4_byWitness_42 : decode cX4_byWitness 42 = .ok (.invokevirtual 49, 3) := by decide +kernel
theorem dX4_byWitness_45 : decode cX4_byWitness 45 = .ok (.ifCond .ne 5, 3) := by decide +kernel
theorem dX4_byWitness_48 : decode cX4_byWitness 48 = .ok (.iconst 0, 1) := by decide +kernel
theorem dX4_byWitness_49 : decode cX4_byWitness 49 = .ok (.ireturn, 1) := by decide +kernel
theorem dX4_byWitness_50 : decode cX4_byWitness 50 = .ok (.aload_n 0, 1) := by decide +kernel
theorem dX4_byWitness_51 : decode cX4_byWitness 51 = .ok (.getfield 26, 3) := by decide +kernel
theorem dX4_byWitness_54 : decode cX4_byWitness 54 = .ok (.invokevirtual 37, 3) := by decide +kernel
theorem dX4_byWitness_57 : decode cX4_byWitness 57 = .ok (.ifCond .ge 5, 3) := by decide +kernel
theorem dX4_byWitness_60 : decode cX4_byWitness 60 = .ok (.iconst 1, 1) := by decide +kernel
theorem dX4_byWitness_61 : decode cX4_byWitness 61 = .ok (.ireturn, 1) := by decide +kernel
theorem dX4_byWitness_62 : decode cX4_byWitness 62 = .ok (.iinc 4 1, 3) := by decide +kernel
theorem dX4_byWitness_65 : decode cX4_byWitness 65 = .ok (.goto (-46), 3) := by decide +kernel
theorem dX4_byWitness_68 : decode cX4_byWitness 68 = .ok (.iconst 0, 1) := by decide +kernel
theorem dX4_byWitness_69 : decode cX4_byWitness 69 = .ok (.ireturn, 1) := by decide +kernel
theorem dX4_byQuotients_0 : decode cX4_byQuotients 0 = .ok (.iconst 1, 1) := by decide +kernel
theorem dX4_byQuotients_1 : decode cX4_byQuotients 1 = .ok (.istore_n 3, 1) := by decide +kernel
theorem dX4_byQuotients_2 : decode cX4_byQuotients 2 = .ok (.iload_n 3, 1) := by decide +kernel
theorem dX4_byQuotients_3 : decode cX4_byQuotients 3 = .ok (.iload_n 2, 1) := by decide +kernel
theorem dX4_byQuotients_4 : decode cX4_byQuotients 4 = .ok (.if_icmp .gt 29, 3) := by decide +kernel
theorem dX4_byQuotients_7 : decode cX4_byQuotients 7 = .ok (.aload_n 0, 1) := by decide +kernel
theorem dX4_byQuotients_8 : decode cX4_byQuotients 8 = .ok (.getfield 13, 3) := by decide +kernel
theorem dX4_byQuotients_11 : decode cX4_byQuotients 11 = .ok (.iload_n 3, 1) := by decide +kernel
theorem dX4_byQuotients_12 : decode cX4_byQuotients 12 = .ok (.aaload, 1) := by decide +kernel
theorem dX4_byQuotients_13 : decode cX4_byQuotients 13 = .ok (.aload_n 1, 1) := by decide +kernel
theorem dX4_byQuotients_14 : decode cX4_byQuotients 14 = .ok (.iload_n 3, 1) := by decide +kernel
theorem dX4_byQuotients_15 : decode cX4_byQuotients 15 = .ok (.aaload, 1) := by decide +kernel
theorem dX4_byQuotients_16 : decode cX4_byQuotients 16 = .ok (.aload_n 1, 1) := by decide +kernel
theorem dX4_byQuotients_17 : decode cX4_byQuotients 17 = .ok (.iconst 0, 1) := by decide +kernel
theorem dX4_byQuotients_18 : decode cX4_byQuotients 18 = .ok (.aaload, 1) := by decide +kernel
theorem dX4_byQuotients_19 : decode cX4_byQuotients 19 = .ok (.invokevirtual 53, 3) := by decide +kernel
theorem dX4_byQuotients_22 : decode cX4_byQuotients 22 = .ok (.ifCond .ne 5, 3) := by decide +kernel
theorem dX4_byQuotients_25 : decode cX4_byQuotients 25 = .ok (.iconst 0, 1) := by decide +kernel
theorem dX4_byQuotients_26 : decode cX4_byQuotients 26 = .ok (.ireturn, 1) := by decide +kernel
theorem dX4_byQuotients_27 : decode cX4_byQuotients 27 = .ok (.iinc 3 1, 3) := by decide +kernel
theorem dX4_byQuotients_30 : decode cX4_byQuotients 30 = .ok (.goto (-28), 3) := by decide +kernel
theorem dX4_byQuotients_33 : decode cX4_byQuotients 33 = .ok (.iconst 1, 1) := by decide +kernel
theorem dX4_byQuotients_34 : decode cX4_byQuotients 34 = .ok (.ireturn, 1) := by decide +kernel
theorem dX4_takeWhole_0 : decode cX4_takeWhole 0 = .ok (.iconst 1, 1) := by decide +kernel
theorem dX4_takeWhole_1 : decode cX4_takeWhole 1 = .ok (.istore_n 3, 1) := by decide +kernel
theorem dX4_takeWhole_2 : decode cX4_takeWhole 2 = .ok (.iload_n 3, 1) := by decide +kernel
theorem dX4_takeWhole_3 : decode cX4_takeWhole 3 = .ok (.iload_n 2, 1) := by decide +kernel
theorem dX4_takeWhole_4 : decode cX4_takeWhole 4 = .ok (.if_icmp .gt 23, 3) := by decide +kernel
theorem dX4_takeWhole_7 : decode cX4_takeWhole 7 = .ok (.aload_n 0, 1) := by decide +kernel
theorem dX4_takeWhole_8 : decode cX4_takeWhole 8 = .ok (.getfield 13, 3) := by decide +kernel
theorem dX4_takeWhole_11 : decode cX4_takeWhole 11 = .ok (.iload_n 3, 1) := by decide +kernel
theorem dX4_takeWhole_12 : decode cX4_takeWhole 12 = .ok (.aaload, 1) := by decide +kernel
theorem dX4_takeWhole_13 : decode cX4_takeWhole 13 = .ok (.aload_n 1, 1) := by decide +kernel
theorem dX4_takeWhole_14 : decode cX4_takeWhole 14 = .ok (.iload_n 3, 1) := by decide +kernel
theorem dX4_takeWhole_15 : decode cX4_takeWhole 15 = .ok (.laload, 1) := by decide +kernel
theorem dX4_takeWhole_16 : decode cX4_takeWhole 16 = .ok (.lconst 1, 1) := by decide +kernel
theorem dX4_takeWhole_17 : decode cX4_takeWhole 17 = .ok (.invokevirtual 33, 3) := by decide +kernel
theorem dX4_takeWhole_20 : decode cX4_takeWhole 20 = .ok (.pop, 1) := by decide +kernel
theorem dX4_takeWhole_21 : decode cX4_takeWhole 21 = .ok (.iinc 3 1, 3) := by decide +kernel
theorem dX4_takeWhole_24 : decode cX4_takeWhole 24 = .ok (.goto (-22), 3) := by decide +kernel
theorem dX4_takeWhole_27 : decode cX4_takeWhole 27 = .ok (.return_, 1) := by decide +kernel
theorem dX4_takeMultiple_0 : decode cX4_takeMultiple 0 = .ok (.iconst 1, 1) := by decide +kernel
theorem dX4_takeMultiple_1 : decode cX4_takeMultiple 1 = .ok (.istore 5, 2) := by decide +kernel
theorem dX4_takeMultiple_3 : decode cX4_takeMultiple 3 = .ok (.iload 5, 2) := by decide +kernel
theorem dX4_takeMultiple_5 : decode cX4_takeMultiple 5 = .ok (.iload 4, 2) := by decide +kernel
theorem dX4_takeMultiple_7 : decode cX4_takeMultiple 7 = .ok (.if_icmp .gt 44, 3) := by decide +kernel
theorem dX4_takeMultiple_10 : decode cX4_takeMultiple 10 = .ok (.aload_n 0, 1) := by decide +kernel
theorem dX4_takeMultiple_11 : decode cX4_takeMultiple 11 = .ok (.getfield 22, 3) := by decide +kernel
theorem dX4_takeMultiple_14 : decode cX4_takeMultiple 14 = .ok (.lload_n 2, 1) := by decide +kernel
theorem dX4_takeMultiple_15 : decode cX4_takeMultiple 15 = .ok (.lconst 1, 1) := by decide +kernel
theorem dX4_takeMultiple_16 : decode cX4_takeMultiple 16 = .ok (.invokevirtual 33, 3) := by decide +kernel
theorem dX4_takeMultiple_19 : decode cX4_takeMultiple 19 = .ok (.ifCond .eq 24, 3) := by decide +kernel
theorem dX4_takeMultiple_22 : decode cX4_takeMultiple 22 = .ok (.aload_n 0, 1) := by decide +kernel
theorem dX4_takeMultiple_23 : decode cX4_takeMultiple 23 = .ok (.getfield 13, 3) := by decide +kernel
theorem dX4_takeMultiple_26 : decode cX4_takeMultiple 26 = .ok (.iload 5, 2) := by decide +kernel
theorem dX4_takeMultiple_28 : decode cX4_takeMultiple 28 = .ok (.aaload, 1) := by decide +kernel
theorem dX4_takeMultiple_29 : decode cX4_takeMultiple 29 = .ok (.aload_n 0, 1) := by decide +kernel
theorem dX4_takeMultiple_30 : decode cX4_takeMultiple 30 = .ok (.getfield 22, 3) := by decide +kernel
theorem dX4_takeMultiple_33 : decode cX4_takeMultiple 33 = .ok (.aload_n 1, 1) := by decide +kernel
theorem dX4_takeMultiple_34 : decode cX4_takeMultiple 34 = .ok (.iload 5, 2) := by decide +kernel
theorem dX4_takeMultiple_36 : decode cX4_takeMultiple 36 = .ok (.aaload, 1) := by decide +kernel
theorem dX4_takeMultiple_37 : decode cX4_takeMultiple 37 = .ok (.invokevirtual 57, 3) := by decide +kernel
theorem dX4_takeMultiple_40 : decode cX4_takeMultiple 40 = .ok (.ifCond .ne 5, 3) := by decide +kernel
theorem dX4_takeMultiple_43 : decode cX4_takeMultiple 43 = .ok (.iconst 0, 1) := by decide +kernel
theorem dX4_takeMultiple_44 : decode cX4_takeMultiple 44 = .ok (.ireturn, 1) := by decide +kernel
theorem dX4_takeMultiple_45 : decode cX4_takeMultiple 45 = .ok (.iinc 5 1, 3) := by decide +kernel
theorem dX4_takeMultiple_48 : decode cX4_takeMultiple 48 = .ok (.goto (-45), 3) := by decide +kernel
theorem dX4_takeMultiple_51 : decode cX4_takeMultiple 51 = .ok (.iconst 1, 1) := by decide +kernel
theorem dX4_takeMultiple_52 : decode cX4_takeMultiple 52 = .ok (.ireturn, 1) := by decide +kernel
theorem dX4_workOut_0 : decode cX4_workOut 0 = .ok (.aload_n 0, 1) := by decide +kernel
theorem dX4_workOut_1 : decode cX4_workOut 1 = .ok (.getfield 26, 3) := by decide +kernel
theorem dX4_workOut_4 : decode cX4_workOut 4 = .ok (.lconst 0, 1) := by decide +kernel
theorem dX4_workOut_5 : decode cX4_workOut 5 = .ok (.lconst 1, 1) := by decide +kernel
theorem dX4_workOut_6 : decode cX4_workOut 6 = .ok (.invokevirtual 33, 3) := by decide +kernel
theorem dX4_workOut_9 : decode cX4_workOut 9 = .ok (.pop, 1) := by decide +kernel
theorem dX4_workOut_10 : decode cX4_workOut 10 = .ok (.iconst 0, 1) := by decide +kernel
theorem dX4_workOut_11 : decode cX4_workOut 11 = .ok (.istore_n 3, 1) := by decide +kernel
theorem dX4_workOut_12 : decode cX4_workOut 12 = .ok (.iload_n 3, 1) := by decide +kernel
theorem dX4_workOut_13 : decode cX4_workOut 13 = .ok (.iload_n 2, 1) := by decide +kernel
theorem dX4_workOut_14 : decode cX4_workOut 14 = .ok (.if_icmp .gt 116, 3) := by decide +kernel
theorem dX4_workOut_17 : decode cX4_workOut 17 = .ok (.iload_n 3, 1) := by decide +kernel
theorem dX4_workOut_18 : decode cX4_workOut 18 = .ok (.istore 4, 2) := by decide +kernel
theorem dX4_workOut_20 : decode cX4_workOut 20 = .ok (.iload 4, 2) := by decide +kernel
theorem dX4_workOut_22 : decode cX4_workOut 22 = .ok (.iload_n 2, 1) := by decide +kernel
theorem dX4_workOut_23 : decode cX4_workOut 23 = .ok (.if_icmp .gt 101, 3) := by decide +kernel
theorem dX4_workOut_26 : decode cX4_workOut 26 = .ok (.aload_n 0, 1) := by decide +kernel
theorem dX4_workOut_27 : decode cX4_workOut 27 = .ok (.getfield 22, 3) := by decide +kernel
theorem dX4_workOut_30 : decode cX4_workOut 30 = .ok (.aload_n 1, 1) := by decide +kernel
theorem dX4_workOut_31 : decode cX4_workOut 31 = .ok (.iload_n 3, 1) := by decide +kernel
theorem dX4_workOut_32 : decode cX4_workOut 32 = .ok (.iload 4, 2) := by decide +kernel
theorem dX4_workOut_34 : decode cX4_workOut 34 = .ok (.invokevirtual 60, 3) := by decide +kernel
theorem dX4_workOut_37 : decode cX4_workOut 37 = .ok (.i2l, 1) := by decide +kernel
theorem dX4_workOut_38 : decode cX4_workOut 38 = .ok (.lconst 1, 1) := by decide +kernel
theorem dX4_workOut_39 : decode cX4_workOut 39 = .ok (.invokevirtual 33, 3) := by decide +kernel
theorem dX4_workOut_42 : decode cX4_workOut 42 = .ok (.ifCond .eq 66, 3) := by decide +kernel
theorem dX4_workOut_45 : decode cX4_workOut 45 = .ok (.aload_n 0, 1) := by decide +kernel
theorem dX4_workOut_46 : decode cX4_workOut 46 = .ok (.getfield 22, 3) := by decide +kernel
theorem dX4_workOut_49 : decode cX4_workOut 49 = .ok (.aload_n 0, 1) := by decide +kernel
theorem dX4_workOut_50 : decode cX4_workOut 50 = .ok (.getfield 22, 3) := by decide +kernel
theorem dX4_workOut_53 : decode cX4_workOut 53 = .ok (.aload_n 0, 1) := by decide +kernel
theorem dX4_workOut_54 : decode cX4_workOut 54 = .ok (.getfield 13, 3) := by decide +kernel
theorem dX4_workOut_57 : decode cX4_workOut 57 = .ok (.iload_n 3, 1) := by decide +kernel
theorem dX4_workOut_58 : decode cX4_workOut 58 = .ok (.aaload, 1) := by decide +kernel
theorem dX4_workOut_59 : decode cX4_workOut 59 = .ok (.invokevirtual 57, 3) := by decide +kernel
theorem dX4_workOut_62 : decode cX4_workOut 62 = .ok (.ifCond .eq 46, 3) := by decide +kernel
theorem dX4_workOut_65 : decode cX4_workOut 65 = .ok (.aload_n 0, 1) := by decide +kernel
theorem dX4_workOut_66 : decode cX4_workOut 66 = .ok (.getfield 22, 3) := by decide +kernel
theorem dX4_workOut_69 : decode cX4_workOut 69 = .ok (.aload_n 0, 1) := by decide +kernel
theorem dX4_workOut_70 : decode cX4_workOut 70 = .ok (.getfield 22, 3) := by decide +kernel
theorem dX4_workOut_73 : decode cX4_workOut 73 = .ok (.aload_n 0, 1) := by decide +kernel
theorem dX4_workOut_74 : decode cX4_workOut 74 = .ok (.getfield 13, 3) := by decide +kernel
theorem dX4_workOut_77 : decode cX4_workOut 77 = .ok (.iload 4, 2) := by decide +kernel
theorem dX4_workOut_79 : decode cX4_workOut 79 = .ok (.aaload, 1) := by decide +kernel
theorem dX4_workOut_80 : decode cX4_workOut 80 = .ok (.invokevirtual 57, 3) := by decide +kernel
theorem dX4_workOut_83 : decode cX4_workOut 83 = .ok (.ifCond .eq 25, 3) := by decide +kernel
theorem dX4_workOut_86 : decode cX4_workOut 86 = .ok (.aload_n 0, 1) := by decide +kernel
theorem dX4_workOut_87 : decode cX4_workOut 87 = .ok (.getfield 26, 3) := by decide +kernel
theorem dX4_workOut_90 : decode cX4_workOut 90 = .ok (.aload_n 0, 1) := by decide +kernel
theorem dX4_workOut_91 : decode cX4_workOut 91 = .ok (.getfield 26, 3) := by decide +kernel
theorem dX4_workOut_94 : decode cX4_workOut 94 = .ok (.aload_n 0, 1) := by decide +kernel
theorem dX4_workOut_95 : decode cX4_workOut 95 = .ok (.getfield 22, 3) := by decide +kernel
theorem dX4_workOut_98 : decode cX4_workOut 98 = .ok (.invokevirtual 66, 3) := by decide +kernel
theorem dX4_workOut_101 : decode cX4_workOut 101 = .ok (.ifCond .eq 7, 3) := by decide +kernel
theorem dX4_workOut_104 : decode cX4_workOut 104 = .ok (.iconst 1, 1) := by decide +kernel
theorem dX4_workOut_105 : decode cX4_workOut 105 = .ok (.goto 4, 3) := by decide +kernel
theorem dX4_workOut_108 : decode cX4_workOut 108 = .ok (.iconst 0, 1) := by decide +kernel
theorem dX4_workOut_109 : decode cX4_workOut 109 = .ok (.istore 5, 2) := by decide +kernel
theorem dX4_workOut_111 : decode cX4_workOut 111 = .ok (.iload 5, 2) := by decide +kernel
theorem dX4_workOut_113 : decode cX4_workOut 113 = .ok (.ifCond .ne 5, 3) := by decide +kernel
theorem dX4_workOut_116 : decode cX4_workOut 116 = .ok (.iconst 0, 1) := by decide +kernel
theorem dX4_workOut_117 : decode cX4_workOut 117 = .ok (.ireturn, 1) := by decide +kernel
theorem dX4_workOut_118 : decode cX4_workOut 118 = .ok (.iinc 4 1, 3) := by decide +kernel
theorem dX4_workOut_121 : decode cX4_workOut 121 = .ok (.goto (-101), 3) := by decide +kernel
theorem dX4_workOut_124 : decode cX4_workOut 124 = .ok (.iinc 3 1, 3) := by decide +kernel
theorem dX4_workOut_127 : decode cX4_workOut 127 = .ok (.goto (-115), 3) := by decide +kernel
theorem dX4_workOut_130 : decode cX4_workOut 130 = .ok (.iconst 1, 1) := by decide +kernel
theorem dX4_workOut_131 : decode cX4_workOut 131 = .ok (.ireturn, 1) := by decide +kernel
theorem dX5_init_0 : decode cX5_init 0 = .ok (.aload_n 0, 1) := by decide +kernel
theorem dX5_init_1 : decode cX5_init 1 = .ok (.invokespecial 3, 3) := by decide +kernel
theorem dX5_init_4 : decode cX5_init 4 = .ok (.aload_n 0, 1) := by decide +kernel
theorem dX5_init_5 : decode cX5_init 5 = .ok (.new 9, 3) := by decide +kernel
theorem dX5_init_8 : decode cX5_init 8 = .ok (.dup, 1) := by decide +kernel
theorem dX5_init_9 : decode cX5_init 9 = .ok (.invokespecial 11, 3) := by decide +kernel
theorem dX5_init_12 : decode cX5_init 12 = .ok (.putfield 12, 3) := by decide +kernel
theorem dX5_init_15 : decode cX5_init 15 = .ok (.aload_n 0, 1) := by decide +kernel
theorem dX5_init_16 : decode cX5_init 16 = .ok (.iconst 5, 1) := by decide +kernel
theorem dX5_init_17 : decode cX5_init 17 = .ok (.invokestatic 18, 3) := by decide +kernel
theorem dX5_init_20 : decode cX5_init 20 = .ok (.putfield 22, 3) := by decide +kernel
theorem dX5_init_23 : decode cX5_init 23 = .ok (.aload_n 0, 1) := by decide +kernel
theorem dX5_init_24 : decode cX5_init 24 = .ok (.iconst 0, 1) := by decide +kernel
theorem dX5_init_25 : decode cX5_init 25 = .ok (.putfield 26, 3) := by decide +kernel
theorem dX5_init_28 : decode cX5_init 28 = .ok (.return_, 1) := by decide +kernel
theorem dX5_start_0 : decode cX5_start 0 = .ok (.aload_n 0, 1) := by decide +kernel
theorem dX5_start_1 : decode cX5_start 1 = .ok (.iload_n 1, 1) := by decide +kernel
theorem dX5_start_2 : decode cX5_start 2 = .ok (.putfield 26, 3) := by decide +kernel
theorem dX5_start_5 : decode cX5_start 5 = .ok (.aload_n 0, 1) := by decide +kernel
theorem dX5_start_6 : decode cX5_start 6 = .ok (.getfield 12, 3) := by decide +kernel
theorem dX5_start_9 : decode cX5_start 9 = .ok (.aload_n 2, 1) := by decide +kernel
theorem dX5_start_10 : decode cX5_start 10 = .ok (.invokevirtual 30, 3) := by decide +kernel
theorem dX5_start_13 : decode cX5_start 13 = .ok (.iconst 0, 1) := by decide +kernel
theorem dX5_start_14 : decode cX5_start 14 = .ok (.istore_n 3, 1) := by decide +kernel
theorem dX5_start_15 : decode cX5_start 15 = .ok (.iload_n 3, 1) := by decide +kernel
theorem dX5_start_16 : decode cX5_start 16 = .ok (.iconst 5, 1) := by decide +kernel
theorem dX5_start_17 : decode cX5_start 17 = .ok (.if_icmp .ge 30, 3) := by decide +kernel
theorem dX5_start_20 : decode cX5_start 20 = .ok (.aload_n 0, 1) := by decide +kernel
theorem dX5_start_21 : decode cX5_start 21 = .ok (.getfield 22, 3) := by decide +kernel
theorem dX5_start_24 : decode cX5_start 24 = .ok (.iload_n 3, 1) := by decide +kernel
theorem dX5_start_25 : decode cX5_start 25 = .ok (.aaload, 1) := by decide +kernel
theorem dX5_start_26 : decode cX5_start 26 = .ok (.iload_n 3, 1) := by decide +kernel
theorem dX5_start_27 : decode cX5_start 27 = .ok (.iload_n 1, 1) := by decide +kernel
theorem dX5_start_28 : decode cX5_start 28 = .ok (.if_icmp .ne 7, 3) := by decide +kernel
theorem dX5_start_31 : decode cX5_start 31 = .ok (.lconst 1, 1) := by decide +kernel
theorem dX5_start_32 : decode cX5_start 32 = .ok (.goto 4, 3) := by decide +kernel
theorem dX5_start_35 : decode cX5_start 35 = .ok (.lconst 0, 1) := by decide +kernel
theorem dX5_start_36 : decode cX5_start 36 = .ok (.lconst 1, 1) := by decide +kernel
theorem dX5_start_37 : decode cX5_start 37 = .ok (.invokevirtual 34, 3) := by decide +kernel
theorem dX5_start_40 : decode cX5_start 40 = .ok (.pop, 1) := by decide +kernel
theorem dX5_start_41 : decode cX5_start 41 = .ok (.iinc 3 1, 3) := by decide +kernel
theorem dX5_start_44 : decode cX5_start 44 = .ok (.goto (-29), 3) := by decide +kernel
theorem dX5_start_47 : decode cX5_start 47 = .ok (.return_, 1) := by decide +kernel
theorem dX6_init_0 : decode cX6_init 0 = .ok (.aload_n 0, 1) := by decide +kernel
theorem dX6_init_1 : decode cX6_init 1 = .ok (.invokespecial 3, 3) := by decide +kernel
theorem dX6_init_4 : decode cX6_init 4 = .ok (.aload_n 0, 1) := by decide +kernel
theorem dX6_init_5 : decode cX6_init 5 = .ok (.bipush 12, 2) := by decide +kernel
theorem dX6_init_7 : decode cX6_init 7 = .ok (.anewarray 9, 3) := by decide +kernel
theorem dX6_init_10 : decode cX6_init 10 = .ok (.putfield 11, 3) := by decide +kernel
theorem dX6_init_13 : decode cX6_init 13 = .ok (.aload_n 0, 1) := by decide +kernel
theorem dX6_init_14 : decode cX6_init 14 = .ok (.bipush 7, 2) := by decide +kernel
theorem dX6_init_16 : decode cX6_init 16 = .ok (.newarray .int, 2) := by decide +kernel
theorem dX6_init_18 : decode cX6_init 18 = .ok (.putfield 15, 3) := by decide +kernel
theorem dX6_init_21 : decode cX6_init 21 = .ok (.aload_n 0, 1) := by decide +kernel
theorem dX6_init_22 : decode cX6_init 22 = .ok (.iconst 5, 1) := by decide +kernel
theorem dX6_init_23 : decode cX6_init 23 = .ok (.newarray .long, 2) := by decide +kernel
theorem dX6_init_25 : decode cX6_init 25 = .ok (.putfield 19, 3) := by decide +kernel
theorem dX6_init_28 : decode cX6_init 28 = .ok (.aload_n 0, 1) := by decide +kernel
theorem dX6_init_29 : decode cX6_init 29 = .ok (.new 23, 3) := by decide +kernel
theorem dX6_init_32 : decode cX6_init 32 = .ok (.dup, 1) := by decide +kernel
theorem dX6_init_33 : decode cX6_init 33 = .ok (.invokespecial 25, 3) := by decide +kernel
theorem dX6_init_36 : decode cX6_init 36 = .ok (.putfield 26, 3) := by decide +kernel
theorem dX6_init_39 : decode cX6_init 39 = .ok (.aload_n 0, 1) := by decide +kernel
theorem dX6_init_40 : decode cX6_init 40 = .ok (.new 30, 3) := by decide +kernel
theorem dX6_init_43 : decode cX6_init 43 = .ok (.dup, 1) := by decide +kernel
theorem dX6_init_44 : decode cX6_init 44 = .ok (.invokespecial 32, 3) := by decide +kernel
theorem dX6_init_47 : decode cX6_init 47 = .ok (.putfield 33, 3) := by decide +kernel
theorem dX6_init_50 : decode cX6_init 50 = .ok (.aload_n 0, 1) := by decide +kernel
theorem dX6_init_51 : decode cX6_init 51 = .ok (.new 30, 3) := by decide +kernel
theorem dX6_init_54 : decode cX6_init 54 = .ok (.dup, 1) := by decide +kernel
theorem dX6_init_55 : decode cX6_init 55 = .ok (.invokespecial 32, 3) := by decide +kernel
theorem dX6_init_58 : decode cX6_init 58 = .ok (.putfield 37, 3) := by decide +kernel
theorem dX6_init_61 : decode cX6_init 61 = .ok (.aload_n 0, 1) := by decide +kernel
theorem dX6_init_62 : decode cX6_init 62 = .ok (.new 40, 3) := by decide +kernel
theorem dX6_init_65 : decode cX6_init 65 = .ok (.dup, 1) := by decide +kernel
theorem dX6_init_66 : decode cX6_init 66 = .ok (.invokespecial 42, 3) := by decide +kernel
theorem dX6_init_69 : decode cX6_init 69 = .ok (.putfield 43, 3) := by decide +kernel
theorem dX6_init_72 : decode cX6_init 72 = .ok (.aload_n 0, 1) := by decide +kernel
theorem dX6_init_73 : decode cX6_init 73 = .ok (.new 47, 3) := by decide +kernel
theorem dX6_init_76 : decode cX6_init 76 = .ok (.dup, 1) := by decide +kernel
theorem dX6_init_77 : decode cX6_init 77 = .ok (.invokespecial 49, 3) := by decide +kernel
theorem dX6_init_80 : decode cX6_init 80 = .ok (.putfield 50, 3) := by decide +kernel
theorem dX6_init_83 : decode cX6_init 83 = .ok (.aload_n 0, 1) := by decide +kernel
theorem dX6_init_84 : decode cX6_init 84 = .ok (.new 47, 3) := by decide +kernel
theorem dX6_init_87 : decode cX6_init 87 = .ok (.dup, 1) := by decide +kernel
theorem dX6_init_88 : decode cX6_init 88 = .ok (.invokespecial 49, 3) := by decide +kernel
theorem dX6_init_91 : decode cX6_init 91 = .ok (.putfield 54, 3) := by decide +kernel
theorem dX6_init_94 : decode cX6_init 94 = .ok (.aload_n 0, 1) := by decide +kernel
theorem dX6_init_95 : decode cX6_init 95 = .ok (.new 47, 3) := by decide +kernel
theorem dX6_init_98 : decode cX6_init 98 = .ok (.dup, 1) := by decide +kernel
theorem dX6_init_99 : decode cX6_init 99 = .ok (.invokespecial 49, 3) := by decide +kernel
theorem dX6_init_102 : decode cX6_init 102 = .ok (.putfield 57, 3) := by decide +kernel
theorem dX6_init_105 : decode cX6_init 105 = .ok (.aload_n 0, 1) := by decide +kernel
theorem dX6_init_106 : decode cX6_init 106 = .ok (.iconst 2, 1) := by decide +kernel
theorem dX6_init_107 : decode cX6_init 107 = .ok (.putfield 60, 3) := by decide +kernel
theorem dX6_init_110 : decode cX6_init 110 = .ok (.aload_n 0, 1) := by decide +kernel
theorem dX6_init_111 : decode cX6_init 111 = .ok (.iconst 0, 1) := by decide +kernel
theorem dX6_init_112 : decode cX6_init 112 = .ok (.putfield 64, 3) := by decide +kernel
theorem dX6_init_115 : decode cX6_init 115 = .ok (.aload_n 0, 1) := by decide +kernel
theorem dX6_init_116 : decode cX6_init 116 = .ok (.iconst 0, 1) := by decide +kernel
theorem dX6_init_117 : decode cX6_init 117 = .ok (.putfield 67, 3) := by decide +kernel
theorem dX6_init_120 : decode cX6_init 120 = .ok (.iconst 0, 1) := by decide +kernel
theorem dX6_init_121 : decode cX6_init 121 = .ok (.istore_n 1, 1) := by decide +kernel
theorem dX6_init_122 : decode cX6_init 122 = .ok (.iload_n 1, 1) := by decide +kernel
theorem dX6_init_123 : decode cX6_init 123 = .ok (.bipush 12, 2) := by decide +kernel
theorem dX6_init_125 : decode cX6_init 125 = .ok (.if_icmp .ge 22, 3) := by decide +kernel
theorem dX6_init_128 : decode cX6_init 128 = .ok (.aload_n 0, 1) := by decide +kernel
theorem dX6_init_129 : decode cX6_init 129 = .ok (.getfield 11, 3) := by decide +kernel
theorem dX6_init_132 : decode cX6_init 132 = .ok (.iload_n 1, 1) := by decide +kernel
theorem dX6_init_133 : decode cX6_init 133 = .ok (.new 9, 3) := by decide +kernel
theorem dX6_init_136 : decode cX6_init 136 = .ok (.dup, 1) := by decide +kernel
theorem dX6_init_137 : decode cX6_init 137 = .ok (.invokespecial 70, 3) := by decide +kernel
theorem dX6_init_140 : decode cX6_init 140 = .ok (.aastore, 1) := by decide +kernel
theorem dX6_init_141 : decode cX6_init 141 = .ok (.iinc 1 1, 3) := by decide +kernel
theorem dX6_init_144 : decode cX6_init 144 = .ok (.goto (-22), 3) := by decide +kernel
theorem dX6_init_147 : decode cX6_init 147 = .ok (.return_, 1) := by decide +kernel
theorem dX6_variables_0 : decode cX6_variables 0 = .ok (.iload_n 1, 1) := by decide +kernel
theorem dX6_variables_1 : decode cX6_variables 1 = .ok (.iconst 1, 1) := by decide +kernel
theorem dX6_variables_2 : decode cX6_variables 2 = .ok (.if_icmp .lt 8, 3) := by decide +kernel
theorem dX6_variables_5 : decode cX6_variables 5 = .ok (.iload_n 1, 1) := by decide +kernel
theorem dX6_variables_6 : decode cX6_variables 6 = .ok (.iconst 4, 1) := by decide +kernel
theorem dX6_variables_7 : decode cX6_variables 7 = .ok (.if_icmp .le 5, 3) := by decide +kernel
theorem dX6_variables_10 : decode cX6_variables 10 = .ok (.iconst (-1), 1) := by decide +kernel
theorem dX6_variables_11 : decode cX6_variables 11 = .ok (.ireturn, 1) := by decide +kernel
theorem dX6_variables_12 : decode cX6_variables 12 = .ok (.aload_n 0, 1) := by decide +kernel
theorem dX6_variables_13 : decode cX6_variables 13 = .ok (.getfield 64, 3) := by decide +kernel
theorem dX6_variables_16 : decode cX6_variables 16 = .ok (.istore_n 2, 1) := by decide +kernel
theorem dX6_variables_17 : decode cX6_variables 17 = .ok (.aload_n 0, 1) := by decide +kernel
theorem dX6_variables_18 : decode cX6_variables 18 = .ok (.iload_n 1, 1) := by decide +kernel
theorem dX6_variables_19 : decode cX6_variables 19 = .ok (.putfield 60, 3) := by decide +kernel
theorem dX6_variables_22 : decode cX6_variables 22 = .ok (.aload_n 0, 1) := by decide +kernel
theorem dX6_variables_23 : decode cX6_variables 23 = .ok (.iconst 0, 1) := by decide +kernel
theorem dX6_variables_24 : decode cX6_variables 24 = .ok (.putfield 64, 3) := by decide +kernel
theorem dX6_variables_27 : decode cX6_variables 27 = .ok (.aload_n 0, 1) := by decide +kernel
theorem dX6_variables_28 : decode cX6_variables 28 = .ok (.iconst 0, 1) := by decide +kernel
theorem dX6_variables_29 : decode cX6_variables 29 = .ok (.putfield 67, 3) := by decide +kernel
theorem dX6_variables_32 : decode cX6_variables 32 = .ok (.aload_n 0, 1) := by decide +kernel
theorem dX6_variables_33 : decode cX6_variables 33 = .ok (.getfield 15, 3) := by decide +kernel
theorem dX6_variables_36 : decode cX6_variables 36 = .ok (.iconst 0, 1) := by decide +kernel
theorem dX6_variables_37 : decode cX6_variables 37 = .ok (.invokestatic 71, 3) := by decide +kernel
theorem dX6_variables_40 : decode cX6_variables 40 = .ok (.aload_n 0, 1) := by decide +kernel
theorem dX6_variables_41 : decode cX6_variables 41 = .ok (.getfield 43, 3) := by decide +kernel
theorem dX6_variables_44 : decode cX6_variables 44 = .ok (.iconst 0, 1) := by decide +kernel
theorem dX6_variables_45 : decode cX6_variables 45 = .ok (.putfield 77, 3) := by decide +kernel
theorem dX6_variables_48 : decode cX6_variables 48 = .ok (.iload_n 2, 1) := by decide +kernel
theorem dX6_variables_49 : decode cX6_variables 49 = .ok (.ireturn, 1) := by decide +kernel
theorem dX6_form_0 : decode cX6_form 0 = .ok (.aload_n 0, 1) := by decide +kernel
theorem dX6_form_1 : decode cX6_form 1 = .ok (.getfield 64, 3) := by decide +kernel
theorem dX6_form_4 : decode cX6_form 4 = .ok (.bipush 12, 2) := by decide +kernel
theorem dX6_form_6 : decode cX6_form 6 = .ok (.if_icmp .lt 6, 3) := by decide +kernel
theorem dX6_form_9 : decode cX6_form 9 = .ok (.bipush (-3), 2) := by decide +kernel
theorem dX6_form_11 : decode cX6_form 11 = .ok (.ireturn, 1) := by decide +kernel
theorem dX6_form_12 : decode cX6_form 12 = .ok (.aload_n 0, 1) := by decide +kernel
theorem dX6_form_13 : decode cX6_form 13 = .ok (.getfield 11, 3) := by decide +kernel
theorem dX6_form_16 : decode cX6_form 16 = .ok (.aload_n 0, 1) := by decide +kernel
theorem dX6_form_17 : decode cX6_form 17 = .ok (.getfield 64, 3) := by decide +kernel
theorem dX6_form_20 : decode cX6_form 20 = .ok (.aaload, 1) := by decide +kernel
theorem dX6_form_21 : decode cX6_form 21 = .ok (.invokevirtual 81, 3) := by decide +kernel
theorem dX6_form_24 : decode cX6_form 24 = .ok (.aload_n 0, 1) := by decide +kernel
theorem dX6_form_25 : decode cX6_form 25 = .ok (.dup, 1) := by decide +kernel
theorem dX6_form_26 : decode cX6_form 26 = .ok (.getfield 64, 3) := by decide +kernel
theorem dX6_form_29 : decode cX6_form 29 = .ok (.iconst 1, 1) := by decide +kernel
theorem dX6_form_30 : decode cX6_form 30 = .ok (.iadd, 1) := by decide +kernel
theorem dX6_form_31 : decode cX6_form 31 = .ok (.putfield 64, 3) := by decide +kernel
theorem dX6_form_34 : decode cX6_form 34 = .ok (.aload_n 0, 1) := by decide +kernel
theorem dX6_form_35 : decode cX6_form 35 = .ok (.getfield 64, 3) := by decide +kernel
theorem dX6_form_38 : decode cX6_form 38 = .ok (.iconst 1, 1) := by decide +kernel
theorem dX6_form_39 : decode cX6_form 39 = .ok (.isub, 1) := by decide +kernel
theorem dX6_form_40 : decode cX6_form 40 = .ok (.ireturn, 1) := by decide +kernel
theorem dX6_term_0 : decode cX6_term 0 = .ok (.aload_n 0, 1) := by decide +kernel
theorem dX6_term_1 : decode cX6_term 1 = .ok (.iload_n 1, 1) := by decide +kernel
theorem dX6_term_2 : decode cX6_term 2 = .ok (.invokevirtual 84, 3) := by decide +kernel
theorem dX6_term_5 : decode cX6_term 5 = .ok (.ifCond .eq 19, 3) := by decide +kernel
theorem dX6_term_8 : decode cX6_term 8 = .ok (.aload_n 0, 1) := by decide +kernel
theorem dX6_term_9 : decode cX6_term 9 = .ok (.iload_n 2, 1) := by decide +kernel
theorem dX6_term_10 : decode cX6_term 10 = .ok (.invokevirtual 88, 3) := by decide +kernel
theorem dX6_term_13 : decode cX6_term 13 = .ok (.ifCond .eq 11, 3) := by decide +kernel
theorem dX6_term_16 : decode cX6_term 16 = .ok (.aload_n 0, 1) := by decide +kernel
theorem dX6_term_17 : decode cX6_term 17 = .ok (.iload_n 3, 1) := by decide +kernel
theorem dX6_term_18 : decode cX6_term 18 = .ok (.invokevirtual 88, 3) := by decide +kernel
theorem dX6_term_21 : decode cX6_term 21 = .ok (.ifCond .ne 6, 3) := by decide +kernel
theorem dX6_term_24 : decode cX6_term 24 = .ok (.ldc 91, 2) := by decide +kernel
theorem dX6_term_26 : decode cX6_term 26 = .ok (.ireturn, 1) := by decide +kernel
theorem dX6_term_27 : decode cX6_term 27 = .ok (.iload 4, 2) := by decide +kernel
theorem dX6_term_29 : decode cX6_term 29 = .ok (.ldc 92, 2) := by decide +kernel
theorem dX6_term_31 : decode cX6_term 31 = .ok (.if_icmp .lt 10, 3) := by decide +kernel
theorem dX6_term_34 : decode cX6_term 34 = .ok (.iload 4, 2) := by decide +kernel
theorem dX6_term_36 : decode cX6_term 36 = .ok (.ldc 93, 2) := by decide +kernel
theorem dX6_term_38 : decode cX6_term 38 = .ok (.if_icmp .le 6, 3) := by decide +kernel
theorem dX6_term_41 : decode cX6_term 41 = .ok (.ldc 91, 2) := by decide +kernel
theorem dX6_term_43 : decode cX6_term 43 = .ok (.ireturn, 1) := by decide +kernel
theorem dX6_term_44 : decode cX6_term 44 = .ok (.aload_n 0, 1) := by decide +kernel
theorem dX6_term_45 : decode cX6_term 45 = .ok (.getfield 11, 3) := by decide +kernel
theorem dX6_term_48 : decode cX6_term 48 = .ok (.iload_n 1, 1) := by decide +kernel
theorem dX6_term_49 : decode cX6_term 49 = .ok (.aaload, 1) := by decide +kernel
theorem dX6_term_50 : decode cX6_term 50 = .ok (.iload_n 2, 1) := by decide +kernel
theorem dX6_term_51 : decode cX6_term 51 = .ok (.iload_n 3, 1) := by decide +kernel
theorem dX6_term_52 : decode cX6_term 52 = .ok (.iload 4, 2) := by decide +kernel
theorem dX6_term_54 : decode cX6_term 54 = .ok (.invokevirtual 94, 3) := by decide +kernel
theorem dX6_term_57 : decode cX6_term 57 = .ok (.ireturn, 1) := by decide +kernel
theorem dX6_value_0 : decode cX6_value 0 = .ok (.aload_n 0, 1) := by decide +kernel
theorem dX6_value_1 : decode cX6_value 1 = .ok (.iload_n 1, 1) := by decide +kernel
theorem dX6_value_2 : decode cX6_value 2 = .ok (.invokevirtual 84, 3) := by decide +kernel
theorem dX6_value_5 : decode cX6_value 5 = .ok (.ifCond .ne 7, 3) := by decide +kernel
theorem dX6_value_8 : decode cX6_value 8 = .ok (.ldc2_w 98, 3) := by decide +kernel
theorem dX6_value_11 : decode cX6_value 11 = .ok (.lreturn, 1) := by decide +kernel
theorem dX6_value_12 : decode cX6_value 12 = .ok (.aload_n 0, 1) := by decide +kernel
theorem dX6_value_13 : decode cX6_value 13 = .ok (.getfield 19, 3) := by decide +kernel
theorem dX6_value_16 : decode cX6_value 16 = .ok (.iconst 0, 1) := by decide +kernel
theorem dX6_value_17 : decode cX6_value 17 = .ok (.lconst 1, 1) := by decide +kernel
theorem dX6_value_18 : decode cX6_value 18 = .ok (.lastore, 1) := by decide +kernel
theorem dX6_value_19 : decode cX6_value 19 = .ok (.aload_n 0, 1) := by decide +kernel
theorem dX6_value_20 : decode cX6_value 20 = .ok (.getfield 19, 3) := by decide +kernel
theorem dX6_value_23 : decode cX6_value 23 = .ok (.iconst 1, 1) := by decide +kernel
theorem dX6_value_24 : decode cX6_value 24 = .ok (.iload_n 2, 1) := by decide +kernel
theorem dX6_value_25 : decode cX6_value 25 = .ok (.i2l, 1) := by decide +kernel
theorem dX6_value_26 : decode cX6_value 26 = .ok (.lastore, 1) := by decide +kernel
theorem dX6_value_27 : decode cX6_value 27 = .ok (.aload_n 0, 1) := by decide +kernel
theorem dX6_value_28 : decode cX6_value 28 = .ok (.getfield 19, 3) := by decide +kernel
theorem dX6_value_31 : decode cX6_value 31 = .ok (.iconst 2, 1) := by decide +kernel
theorem dX6_value_32 : decode cX6_value 32 = .ok (.iload_n 3, 1) := by decide +kernel
theorem dX6_value_33 : decode cX6_value 33 = .ok (.i2l, 1) := by decide +kernel
theorem dX6_value_34 : decode cX6_value 34 = .ok (.lastore, 1) := by decide +kernel
theorem dX6_value_35 : decode cX6_value 35 = .ok (.aload_n 0, 1) := by decide +kernel
theorem dX6_value_36 : decode cX6_value 36 = .ok (.getfield 19, 3) := by decide +kernel
theorem dX6_value_39 : decode cX6_value 39 = .ok (.iconst 3, 1) := by decide +kernel
theorem dX6_value_40 : decode cX6_value 40 = .ok (.iload 4, 2) := by decide +kernel
theorem dX6_value_42 : decode cX6_value 42 = .ok (.i2l, 1) := by decide +kernel
theorem dX6_value_43 : decode cX6_value 43 = .ok (.lastore, 1) := by decide +kernel
theorem dX6_value_44 : decode cX6_value 44 = .ok (.aload_n 0, 1) := by decide +kernel
theorem dX6_value_45 : decode cX6_value 45 = .ok (.getfield 19, 3) := by decide +kernel
theorem dX6_value_48 : decode cX6_value 48 = .ok (.iconst 4, 1) := by decide +kernel
theorem dX6_value_49 : decode cX6_value 49 = .ok (.iload 5, 2) := by decide +kernel
theorem dX6_value_51 : decode cX6_value 51 = .ok (.i2l, 1) := by decide +kernel
theorem dX6_value_52 : decode cX6_value 52 = .ok (.lastore, 1) := by decide +kernel
theorem dX6_value_53 : decode cX6_value 53 = .ok (.iconst 1, 1) := by decide +kernel
theorem dX6_value_54 : decode cX6_value 54 = .ok (.istore 6, 2) := by decide +kernel
theorem dX6_value_56 : decode cX6_value 56 = .ok (.iload 6, 2) := by decide +kernel
theorem dX6_value_58 : decode cX6_value 58 = .ok (.aload_n 0, 1) := by decide +kernel
theorem dX6_value_59 : decode cX6_value 59 = .ok (.getfield 60, 3) := by decide +kernel
theorem dX6_value_62 : decode cX6_value 62 = .ok (.if_icmp .gt 41, 3) := by decide +kernel
theorem dX6_value_65 : decode cX6_value 65 = .ok (.aload_n 0, 1) := by decide +kernel
theorem dX6_value_66 : decode cX6_value 66 = .ok (.getfield 19, 3) := by decide +kernel
theorem dX6_value_69 : decode cX6_value 69 = .ok (.iload 6, 2) := by decide +kernel
theorem dX6_value_71 : decode cX6_value 71 = .ok (.laload, 1) := by decide +kernel
theorem dX6_value_72 : decode cX6_value 72 = .ok (.ldc2_w 100, 3) := by decide +kernel
theorem dX6_value_75 : decode cX6_value 75 = .ok (.lcmp, 1) := by decide +kernel
theorem dX6_value_76 : decode cX6_value 76 = .ok (.ifCond .lt 17, 3) := by decide +kernel
theorem dX6_value_79 : decode cX6_value 79 = .ok (.aload_n 0, 1) := by decide +kernel
theorem dX6_value_80 : decode cX6_value 80 = .ok (.getfield 19, 3) := by decide +kernel
theorem dX6_value_83 : decode cX6_value 83 = .ok (.iload 6, 2) := by decide +kernel
theorem dX6_value_85 : decode cX6_value 85 = .ok (.laload, 1) := by decide +kernel
theorem dX6_value_86 : decode cX6_value 86 = .ok (.ldc2_w 102, 3) := by decide +kernel
theorem dX6_value_89 : decode cX6_value 89 = .ok (.lcmp, 1) := by decide +kernel
theorem dX6_value_90 : decode cX6_value 90 = .ok (.ifCond .le 7, 3) := by decide +kernel
theorem dX6_value_93 : decode cX6_value 93 = .ok (.ldc2_w 98, 3) := by decide +kernel
theorem dX6_value_96 : decode cX6_value 96 = .ok (.lreturn, 1) := by decide +kernel
theorem dX6_value_97 : decode cX6_value 97 = .ok (.iinc 6 1, 3) := by decide +kernel
theorem dX6_value_100 : decode cX6_value 100 = .ok (.goto (-44), 3) := by decide +kernel
theorem dX6_value_103 : decode cX6_value 103 = .ok (.aload_n 0, 1) := by decide +kernel
theorem dX6_value_104 : decode cX6_value 104 = .ok (.getfield 11, 3) := by decide +kernel
theorem dX6_value_107 : decode cX6_value 107 = .ok (.iload_n 1, 1) := by decide +kernel
theorem dX6_value_108 : decode cX6_value 108 = .ok (.aaload, 1) := by decide +kernel
theorem dX6_value_109 : decode cX6_value 109 = .ok (.aload_n 0, 1) := by decide +kernel
theorem dX6_value_110 : decode cX6_value 110 = .ok (.getfield 19, 3) := by decide +kernel
theorem dX6_value_113 : decode cX6_value 113 = .ok (.aload_n 0, 1) := by decide +kernel
theorem dX6_value_114 : decode cX6_value 114 = .ok (.getfield 60, 3) := by decide +kernel
theorem dX6_value_117 : decode cX6_value 117 = .ok (.invokevirtual 104, 3) := by decide +kernel
theorem dX6_value_120 : decode cX6_value 120 = .ok (.lreturn, 1) := by decide +kernel
theorem dX6_plain_0 : decode cX6_plain 0 = .ok (.aload_n 0, 1) := by decide +kernel
theorem dX6_plain_1 : decode cX6_plain 1 = .ok (.iload_n 1, 1) := by decide +kernel
theorem dX6_plain_2 : decode cX6_plain 2 = .ok (.invokevirtual 84, 3) := by decide +kernel
theorem dX6_plain_5 : decode cX6_plain 5 = .ok (.ifCond .ne 5, 3) := by decide +kernel
theorem dX6_plain_8 : decode cX6_plain 8 = .ok (.iconst (-1), 1) := by decide +kernel
theorem dX6_plain_9 : decode cX6_plain 9 = .ok (.ireturn, 1) := by decide +kernel
theorem dX6_plain_10 : decode cX6_plain 10 = .ok (.aload_n 0, 1) := by decide +kernel
theorem dX6_plain_11 : decode cX6_plain 11 = .ok (.getfield 37, 3) := by decide +kernel
theorem dX6_plain_14 : decode cX6_plain 14 = .ok (.aload_n 0, 1) := by decide +kernel
theorem dX6_plain_15 : decode cX6_plain 15 = .ok (.getfield 11, 3) := by decide +kernel
theorem dX6_plain_18 : decode cX6_plain 18 = .ok (.iload_n 1, 1) := by decide +kernel
theorem dX6_plain_19 : decode cX6_plain 19 = .ok (.aaload, 1) := by decide +kernel
theorem dX6_plain_20 : decode cX6_plain 20 = .ok (.aload_n 0, 1) := by decide +kernel
theorem dX6_plain_21 : decode cX6_plain 21 = .ok (.getfield 60, 3) := by decide +kernel
theorem dX6_plain_24 : decode cX6_plain 24 = .ok (.invokevirtual 108, 3) := by decide +kernel
theorem dX6_plain_27 : decode cX6_plain 27 = .ok (.ireturn, 1) := by decide +kernel
theorem dX6_prove_0 : decode cX6_prove 0 = .ok (.aload_n 0, 1) := by decide +kernel
theorem dX6_prove_1 : decode cX6_prove 1 = .ok (.iload_n 1, 1) := by decide +kernel
theorem dX6_prove_2 : decode cX6_prove 2 = .ok (.invokevirtual 84, 3) := by decide +kernel
theorem dX6_prove_5 : decode cX6_prove 5 = .ok (.ifCond .ne 5, 3) := by decide +kernel
theorem dX6_prove_8 : decode cX6_prove 8 = .ok (.iconst (-1), 1) := by decide +kernel
theorem dX6_prove_9 : decode cX6_prove 9 = .ok (.ireturn, 1) := by decide +kernel
theorem dX6_prove_10 : decode cX6_prove 10 = .ok (.aload_n 0, 1) := by decide +kernel
theorem dX6_prove_11 : decode cX6_prove 11 = .ok (.iload_n 1, 1) := by decide +kernel
theorem dX6_prove_12 : decode cX6_prove 12 = .ok (.iconst (-1), 1) := by decide +kernel
theorem dX6_prove_13 : decode cX6_prove 13 = .ok (.invokevirtual 112, 3) := by decide +kernel
theorem dX6_prove_16 : decode cX6_prove 16 = .ok (.aload_n 0, 1) := by decide +kernel
theorem dX6_prove_17 : decode cX6_prove 17 = .ok (.getfield 26, 3) := by decide +kernel
theorem dX6_prove_20 : decode cX6_prove 20 = .ok (.aload_n 0, 1) := by decide +kernel
theorem dX6_prove_21 : decode cX6_prove 21 = .ok (.getfield 11, 3) := by decide +kernel
theorem dX6_prove_24 : decode cX6_prove 24 = .ok (.iload_n 1, 1) := by decide +kernel
theorem dX6_prove_25 : decode cX6_prove 25 = .ok (.aaload, 1) := by decide +kernel
theorem dX6_prove_26 : decode cX6_prove 26 = .ok (.aload_n 0, 1) := by decide +kernel
theorem dX6_prove_27 : decode cX6_prove 27 = .ok (.getfield 60, 3) := by decide +kernel
theorem dX6_prove_30 : decode cX6_prove 30 = .ok (.invokevirtual 116, 3) := by decide +kernel
theorem dX6_prove_33 : decode cX6_prove 33 = .ok (.aload_n 0, 1) := by decide +kernel
theorem dX6_prove_34 : decode cX6_prove 34 = .ok (.getfield 33, 3) := by decide +kernel
theorem dX6_prove_37 : decode cX6_prove 37 = .ok (.aload_n 0, 1) := by decide +kernel
theorem dX6_prove_38 : decode cX6_prove 38 = .ok (.getfield 26, 3) := by decide +kernel
theorem dX6_prove_41 : decode cX6_prove 41 = .ok (.aload_n 0, 1) := by decide +kernel
theorem dX6_prove_42 : decode cX6_prove 42 = .ok (.getfield 60, 3) := by decide +kernel
theorem dX6_prove_45 : decode cX6_prove 45 = .ok (.invokevirtual 120, 3) := by decide +kernel
theorem dX6_prove_48 : decode cX6_prove 48 = .ok (.istore_n 2, 1) := by decide +kernel
theorem dX6_prove_49 : decode cX6_prove 49 = .ok (.iload_n 2, 1) := by decide +kernel
theorem dX6_prove_50 : decode cX6_prove 50 = .ok (.ifCond .ne 18, 3) := by decide +kernel
theorem dX6_prove_53 : decode cX6_prove 53 = .ok (.aload_n 0, 1) := by decide +kernel
theorem dX6_prove_54 : decode cX6_prove 54 = .ok (.aload_n 0, 1) := by decide +kernel
theorem dX6_prove_55 : decode cX6_prove 55 = .ok (.getfield 11, 3) := by decide +kernel
theorem dX6_prove_58 : decode cX6_prove 58 = .ok (.iload_n 1, 1) := by decide +kernel
theorem dX6_prove_59 : decode cX6_prove 59 = .ok (.aaload, 1) := by decide +kernel
theorem dX6_prove_60 : decode cX6_prove 60 = .ok (.invokevirtual 124, 3) := by decide +kernel
theorem dX6_prove_63 : decode cX6_prove 63 = .ok (.ifCond .ne 5, 3) := by decide +kernel
theorem dX6_prove_66 : decode cX6_prove 66 = .ok (.iconst 2, 1) := by decide +kernel
theorem dX6_prove_67 : decode cX6_prove 67 = .ok (.istore_n 2, 1) := by decide +kernel
theorem dX6_prove_68 : decode cX6_prove 68 = .ok (.aload_n 0, 1) := by decide +kernel
theorem dX6_prove_69 : decode cX6_prove 69 = .ok (.iload_n 2, 1) := by decide +kernel
theorem dX6_prove_70 : decode cX6_prove 70 = .ok (.invokevirtual 128, 3) := by decide +kernel
theorem dX6_prove_73 : decode cX6_prove 73 = .ok (.ireturn, 1) := by decide +kernel
theorem dX6_under_0 : decode cX6_under 0 = .ok (.aload_n 0, 1) := by decide +kernel
theorem dX6_under_1 : decode cX6_under 1 = .ok (.iload_n 1, 1) := by decide +kernel
theorem dX6_under_2 : decode cX6_under 2 = .ok (.invokevirtual 84, 3) := by decide +kernel
theorem dX6_under_5 : decode cX6_under 5 = .ok (.ifCond .eq 22, 3) := by decide +kernel
theorem dX6_under_8 : decode cX6_under 8 = .ok (.aload_n 0, 1) := by decide +kernel
theorem dX6_under_9 : decode cX6_under 9 = .ok (.iload_n 2, 1) := by decide +kernel
theorem dX6_under_10 : decode cX6_under 10 = .ok (.invokevirtual 84, 3) := by decide +kernel
theorem dX6_under_13 : decode cX6_under 13 = .ok (.ifCond .eq 14, 3) := by decide +kernel
theorem dX6_under_16 : decode cX6_under 16 = .ok (.iload_n 3, 1) := by decide +kernel
theorem dX6_under_17 : decode cX6_under 17 = .ok (.iconst 1, 1) := by decide +kernel
theorem dX6_under_18 : decode cX6_under 18 = .ok (.if_icmp .lt 9, 3) := by decide +kernel
theorem dX6_under_21 : decode cX6_under 21 = .ok (.iload_n 3, 1) := by decide +kernel
theorem dX6_under_22 : decode cX6_under 22 = .ok (.bipush 20, 2) := by decide +kernel
theorem dX6_under_24 : decode cX6_under 24 = .ok (.if_icmp .le 5, 3) := by decide +kernel
theorem dX6_under_27 : decode cX6_under 27 = .ok (.iconst (-1), 1) := by decide +kernel
theorem dX6_under_28 : decode cX6_under 28 = .ok (.ireturn, 1) := by decide +kernel
theorem dX6_under_29 : decode cX6_under 29 = .ok (.aload_n 0, 1) := by decide +kernel
theorem dX6_under_30 : decode cX6_under 30 = .ok (.iload_n 1, 1) := by decide +kernel
theorem dX6_under_31 : decode cX6_under 31 = .ok (.iload_n 2, 1) := by decide +kernel
theorem dX6_under_32 : decode cX6_under 32 = .ok (.invokevirtual 112, 3) := by decide +kernel
theorem dX6_under_35 : decode cX6_under 35 = .ok (.aload_n 0, 1) := by decide +kernel
theorem dX6_under_36 : decode cX6_under 36 = .ok (.aload_n 0, 1) := by decide +kernel
theorem dX6_under_37 : decode cX6_under 37 = .ok (.getfield 11, 3) := by decide +kernel
theorem dX6_under_40 : decode cX6_under 40 = .ok (.iload_n 1, 1) := by decide +kernel
theorem dX6_under_41 : decode cX6_under 41 = .ok (.aaload, 1) := by decide +kernel
theorem dX6_under_42 : decode cX6_under 42 = .ok (.aload_n 0, 1) := by decide +kernel
theorem dX6_under_43 : decode cX6_under 43 = .ok (.getfield 11, 3) := by decide +kernel
theorem dX6_under_46 : decode cX6_under 46 = .ok (.iload_n 2, 1) := by decide +kernel
theorem dX6_under_47 : decode cX6_under 47 = .ok (.aaload, 1) := by decide +kernel
theorem dX6_under_48 : decode cX6_under 48 = .ok (.iload_n 3, 1) := by decide +kernel
theorem dX6_under_49 : decode cX6_under 49 = .ok (.invokevirtual 132, 3) := by decide +kernel
theorem dX6_under_52 : decode cX6_under 52 = .ok (.ifCond .eq 9, 3) := by decide +kernel
theorem dX6_under_55 : decode cX6_under 55 = .ok (.aload_n 0, 1) := by decide +kernel
theorem dX6_under_56 : decode cX6_under 56 = .ok (.iconst 1, 1) := by decide +kernel
theorem dX6_under_57 : decode cX6_under 57 = .ok (.invokevirtual 128, 3) := by decide +kernel
theorem dX6_under_60 : decode cX6_under 60 = .ok (.ireturn, 1) := by decide +kernel
theorem dX6_under_61 : decode cX6_under 61 = .ok (.aload_n 0, 1) := by decide +kernel
theorem dX6_under_62 : decode cX6_under 62 = .ok (.aload_n 0, 1) := by decide +kernel
theorem dX6_under_63 : decode cX6_under 63 = .ok (.getfield 11, 3) := by decide +kernel
theorem dX6_under_66 : decode cX6_under 66 = .ok (.iload_n 1, 1) := by decide +kernel
theorem dX6_under_67 : decode cX6_under 67 = .ok (.aaload, 1) := by decide +kernel
theorem dX6_under_68 : decode cX6_under 68 = .ok (.aload_n 0, 1) := by decide +kernel
theorem dX6_under_69 : decode cX6_under 69 = .ok (.getfield 11, 3) := by decide +kernel
theorem dX6_under_72 : decode cX6_under 72 = .ok (.iload_n 2, 1) := by decide +kernel
theorem dX6_under_73 : decode cX6_under 73 = .ok (.aaload, 1) := by decide +kernel
theorem dX6_under_74 : decode cX6_under 74 = .ok (.invokevirtual 136, 3) := by decide +kernel
theorem dX6_under_77 : decode cX6_under 77 = .ok (.ifCond .eq 9, 3) := by decide +kernel
theorem dX6_under_80 : decode cX6_under 80 = .ok (.aload_n 0, 1) := by decide +kernel
theorem dX6_under_81 : decode cX6_under 81 = .ok (.iconst 0, 1) := by decide +kernel
theorem dX6_under_82 : decode cX6_under 82 = .ok (.invokevirtual 128, 3) := by decide +kernel
theorem dX6_under_85 : decode cX6_under 85 = .ok (.ireturn, 1) := by decide +kernel
theorem dX6_under_86 : decode cX6_under 86 = .ok (.aload_n 0, 1) := by decide +kernel
theorem dX6_under_87 : decode cX6_under 87 = .ok (.iconst 2, 1) := by decide +kernel
theorem dX6_under_88 : decode cX6_under 88 = .ok (.invokevirtual 128, 3) := by decide +kernel
theorem dX6_under_91 : decode cX6_under 91 = .ok (.ireturn, 1) := by decide +kernel
theorem dX6_told_0 : decode cX6_told 0 = .ok (.iload_n 1, 1) := by decide +kernel
theorem dX6_told_1 : decode cX6_told 1 = .ok (.ifCond .lt 9, 3) := by decide +kernel
theorem dX6_told_4 : decode cX6_told 4 = .ok (.iload_n 1, 1) := by decide +kernel
theorem dX6_told_5 : decode cX6_told 5 = .ok (.bipush 7, 2) := by decide +kernel
theorem dX6_told_7 : decode cX6_told 7 = .ok (.if_icmp .lt 5, 3) := by decide +kernel
theorem dX6_told_10 : decode cX6_told 10 = .ok (.iconst (-1), 1) := by decide +kernel
theorem dX6_told_11 : decode cX6_told 11 = .ok (.ireturn, 1) := by decide +kernel
theorem dX6_told_12 : decode cX6_told 12 = .ok (.aload_n 0, 1) := by decide +kernel
theorem dX6_told_13 : decode cX6_told 13 = .ok (.getfield 67, 3) := by decide +kernel
theorem dX6_told_16 : decode cX6_told 16 = .ok (.ifCond .ne 6, 3) := by decide +kernel
theorem dX6_told_19 : decode cX6_told 19 = .ok (.bipush (-2), 2) := by decide +kernel
theorem dX6_told_21 : decode cX6_told 21 = .ok (.ireturn, 1) := by decide +kernel
theorem dX6_told_22 : decode cX6_told 22 = .ok (.aload_n 0, 1) := by decide +kernel
theorem dX6_told_23 : decode cX6_told 23 = .ok (.getfield 15, 3) := by decide +kernel
theorem dX6_told_26 : decode cX6_told 26 = .ok (.iload_n 1, 1) := by decide +kernel
theorem dX6_told_27 : decode cX6_told 27 = .ok (.iaload, 1) := by decide +kernel
theorem dX6_told_28 : decode cX6_told 28 = .ok (.ireturn, 1) := by decide +kernel
theorem dX6_weight_0 : decode cX6_weight 0 = .ok (.aload_n 0, 1) := by decide +kernel
theorem dX6_weight_1 : decode cX6_weight 1 = .ok (.iload_n 1, 1) := by decide +kernel
theorem dX6_weight_2 : decode cX6_weight 2 = .ok (.invokevirtual 140, 3) := by decide +kernel
theorem dX6_weight_5 : decode cX6_weight 5 = .ok (.ifCond .eq 10, 3) := by decide +kernel
theorem dX6_weight_8 : decode cX6_weight 8 = .ok (.iload_n 2, 1) := by decide +kernel
theorem dX6_weight_9 : decode cX6_weight 9 = .ok (.invokestatic 143, 3) := by decide +kernel
theorem dX6_weight_12 : decode cX6_weight 12 = .ok (.ifCond .ne 5, 3) := by decide +kernel
theorem dX6_weight_15 : decode cX6_weight 15 = .ok (.lconst 0, 1) := by decide +kernel
theorem dX6_weight_16 : decode cX6_weight 16 = .ok (.lreturn, 1) := by decide +kernel
theorem dX6_weight_17 : decode cX6_weight 17 = .ok (.aload_n 0, 1) := by decide +kernel
theorem dX6_weight_18 : decode cX6_weight 18 = .ok (.getfield 33, 3) := by decide +kernel
theorem dX6_weight_21 : decode cX6_weight 21 = .ok (.getfield 146, 3) := by decide +kernel
theorem dX6_weight_24 : decode cX6_weight 24 = .ok (.iload_n 1, 1) := by decide +kernel
theorem dX6_weight_25 : decode cX6_weight 25 = .ok (.aaload, 1) := by decide +kernel
theorem dX6_weight_26 : decode cX6_weight 26 = .ok (.getfield 150, 3) := by decide +kernel
theorem dX6_weight_29 : decode cX6_weight 29 = .ok (.iload_n 2, 1) := by decide +kernel
theorem dX6_weight_30 : decode cX6_weight 30 = .ok (.invokevirtual 155, 3) := by decide +kernel
theorem dX6_weight_33 : decode cX6_weight 33 = .ok (.lreturn, 1) := by decide +kernel
theorem dX6_line_0 : decode cX6_line 0 = .ok (.aload_n 0, 1) := by decide +kernel
theorem dX6_line_1 : decode cX6_line 1 = .ok (.iload_n 1, 1) := by decide +kernel
theorem dX6_line_2 : decode cX6_line 2 = .ok (.invokevirtual 140, 3) := by decide +kernel
theorem dX6_line_5 : decode cX6_line 5 = .ok (.ifCond .eq 18, 3) := by decide +kernel
theorem dX6_line_8 : decode cX6_line 8 = .ok (.aload_n 0, 1) := by decide +kernel
theorem dX6_line_9 : decode cX6_line 9 = .ok (.iload_n 2, 1) := by decide +kernel
theorem dX6_line_10 : decode cX6_line 10 = .ok (.invokevirtual 88, 3) := by decide +kernel
theorem dX6_line_13 : decode cX6_line 13 = .ok (.ifCond .eq 10, 3) := by decide +kernel
theorem dX6_line_16 : decode cX6_line 16 = .ok (.iload_n 3, 1) := by decide +kernel
theorem dX6_line_17 : decode cX6_line 17 = .ok (.invokestatic 143, 3) := by decide +kernel
theorem dX6_line_20 : decode cX6_line 20 = .ok (.ifCond .ne 5, 3) := by decide +kernel
theorem dX6_line_23 : decode cX6_line 23 = .ok (.lconst 0, 1) := by decide +kernel
theorem dX6_line_24 : decode cX6_line 24 = .ok (.lreturn, 1) := by decide +kernel
theorem dX6_line_25 : decode cX6_line 25 = .ok (.aload_n 0, 1) := by decide +kernel
theorem dX6_line_26 : decode cX6_line 26 = .ok (.getfield 33, 3) := by decide +kernel
theorem dX6_line_29 : decode cX6_line 29 = .ok (.getfield 146, 3) := by decide +kernel
theorem dX6_line_32 : decode cX6_line 32 = .ok (.iload_n 1, 1) := by decide +kernel
theorem dX6_line_33 : decode cX6_line 33 = .ok (.aaload, 1) := by decide +kernel
theorem dX6_line_34 : decode cX6_line 34 = .ok (.getfield 159, 3) := by decide +kernel
theorem dX6_line_37 : decode cX6_line 37 = .ok (.iload_n 2, 1) := by decide +kernel
theorem dX6_line_38 : decode cX6_line 38 = .ok (.aaload, 1) := by decide +kernel
theorem dX6_line_39 : decode cX6_line 39 = .ok (.iload_n 3, 1) := by decide +kernel
theorem dX6_line_40 : decode cX6_line 40 = .ok (.invokevirtual 155, 3) := by decide +kernel
theorem dX6_line_43 : decode cX6_line 43 = .ok (.lreturn, 1) := by decide +kernel
theorem dX6_point_0 : decode cX6_point 0 = .ok (.aload_n 0, 1) := by decide +kernel
theorem dX6_point_1 : decode cX6_point 1 = .ok (.getfield 43, 3) := by decide +kernel
theorem dX6_point_4 : decode cX6_point 4 = .ok (.getfield 77, 3) := by decide +kernel
theorem dX6_point_7 : decode cX6_point 7 = .ok (.ifCond .eq 22, 3) := by decide +kernel
theorem dX6_point_10 : decode cX6_point 10 = .ok (.iload_n 1, 1) := by decide +kernel
theorem dX6_point_11 : decode cX6_point 11 = .ok (.ifCond .eq 18, 3) := by decide +kernel
theorem dX6_point_14 : decode cX6_point 14 = .ok (.aload_n 0, 1) := by decide +kernel
theorem dX6_point_15 : decode cX6_point 15 = .ok (.iload_n 1, 1) := by decide +kernel
theorem dX6_point_16 : decode cX6_point 16 = .ok (.invokevirtual 88, 3) := by decide +kernel
theorem dX6_point_19 : decode cX6_point 19 = .ok (.ifCond .eq 10, 3) := by decide +kernel
theorem dX6_point_22 : decode cX6_point 22 = .ok (.iload_n 2, 1) := by decide +kernel
theorem dX6_point_23 : decode cX6_point 23 = .ok (.invokestatic 143, 3) := by decide +kernel
theorem dX6_point_26 : decode cX6_point 26 = .ok (.ifCond .ne 5, 3) := by decide +kernel
theorem dX6_point_29 : decode cX6_point 29 = .ok (.lconst 0, 1) := by decide +kernel
theorem dX6_point_30 : decode cX6_point 30 = .ok (.lreturn, 1) := by decide +kernel
theorem dX6_point_31 : decode cX6_point 31 = .ok (.aload_n 0, 1) := by decide +kernel
theorem dX6_point_32 : decode cX6_point 32 = .ok (.getfield 43, 3) := by decide +kernel
theorem dX6_point_35 : decode cX6_point 35 = .ok (.getfield 163, 3) := by decide +kernel
theorem dX6_point_38 : decode cX6_point 38 = .ok (.iload_n 1, 1) := by decide +kernel
theorem dX6_point_39 : decode cX6_point 39 = .ok (.aaload, 1) := by decide +kernel
theorem dX6_point_40 : decode cX6_point 40 = .ok (.iload_n 2, 1) := by decide +kernel
theorem dX6_point_41 : decode cX6_point 41 = .ok (.invokevirtual 155, 3) := by decide +kernel
theorem dX6_point_44 : decode cX6_point 44 = .ok (.lreturn, 1) := by decide +kernel
theorem dX6_near_0 : decode cX6_near 0 = .ok (.aload_n 0, 1) := by decide +kernel
theorem dX6_near_1 : decode cX6_near 1 = .ok (.iload_n 1, 1) := by decide +kernel
theorem dX6_near_2 : decode cX6_near 2 = .ok (.invokevirtual 140, 3) := by decide +kernel
theorem dX6_near_5 : decode cX6_near 5 = .ok (.ifCond .ne 5, 3) := by decide +kernel
theorem dX6_near_8 : decode cX6_near 8 = .ok (.lconst 0, 1) := by decide +kernel
theorem dX6_near_9 : decode cX6_near 9 = .ok (.lreturn, 1) := by decide +kernel
theorem dX6_near_10 : decode cX6_near 10 = .ok (.aload_n 0, 1) := by decide +kernel
theorem dX6_near_11 : decode cX6_near 11 = .ok (.getfield 33, 3) := by decide +kernel
theorem dX6_near_14 : decode cX6_near 14 = .ok (.getfield 146, 3) := by decide +kernel
theorem dX6_near_17 : decode cX6_near 17 = .ok (.iload_n 1, 1) := by decide +kernel
theorem dX6_near_18 : decode cX6_near 18 = .ok (.aaload, 1) := by decide +kernel
theorem dX6_near_19 : decode cX6_near 19 = .ok (.getfield 150, 3) := by decide +kernel
theorem dX6_near_22 : decode cX6_near 22 = .ok (.astore_n 2, 1) := by decide +kernel
theorem dX6_near_23 : decode cX6_near 23 = .ok (.aload_n 2, 1) := by decide +kernel
theorem dX6_near_24 : decode cX6_near 24 = .ok (.getfield 166, 3) := by decide +kernel
theorem dX6_near_27 : decode cX6_near 27 = .ok (.l2d, 1) := by decide +kernel
theorem dX6_near_28 : decode cX6_near 28 = .ok (.aload_n 2, 1) := by decide +kernel
theorem dX6_near_29 : decode cX6_near 29 = .ok (.getfield 170, 3) := by decide +kernel
theorem dX6_near_32 : decode cX6_near 32 = .ok (.l2d, 1) := by decide +kernel
theorem dX6_near_33 : decode cX6_near 33 = .ok (.ddiv, 1) := by decide +kernel
theorem dX6_near_34 : decode cX6_near 34 = .ok (.invokestatic 173, 3) := by decide +kernel
theorem dX6_near_37 : decode cX6_near 37 = .ok (.lreturn, 1) := by decide +kernel
theorem dX6_plant_0 : decode cX6_plant 0 = .ok (.aload_n 0, 1) := by decide +kernel
theorem dX6_plant_1 : decode cX6_plant 1 = .ok (.iload_n 1, 1) := by decide +kernel
theorem dX6_plant_2 : decode cX6_plant 2 = .ok (.invokevirtual 140, 3) := by decide +kernel
theorem dX6_plant_5 : decode cX6_plant 5 = .ok (.ifCond .eq 10, 3) := by decide +kernel
theorem dX6_plant_8 : decode cX6_plant 8 = .ok (.lload 4, 2) := by decide +kernel
theorem dX6_plant_10 : decode cX6_plant 10 = .ok (.lconst 0, 1) := by decide +kernel
theorem dX6_plant_11 : decode cX6_plant 11 = .ok (.lcmp, 1) := by decide +kernel
theorem dX6_plant_12 : decode cX6_plant 12 = .ok (.ifCond .ne 5, 3) := by decide +kernel
theorem dX6_plant_15 : decode cX6_plant 15 = .ok (.iconst (-1), 1) := by decide +kernel
theorem dX6_plant_16 : decode cX6_plant 16 = .ok (.ireturn, 1) := by decide +kernel
theorem dX6_plant_17 : decode cX6_plant 17 = .ok (.aload_n 0, 1) := by decide +kernel
theorem dX6_plant_18 : decode cX6_plant 18 = .ok (.getfield 33, 3) := by decide +kernel
theorem dX6_plant_21 : decode cX6_plant 21 = .ok (.getfield 146, 3) := by decide +kernel
theorem dX6_plant_24 : decode cX6_plant 24 = .ok (.iload_n 1, 1) := by decide +kernel
theorem dX6_plant_25 : decode cX6_plant 25 = .ok (.aaload, 1) := by decide +kernel
theorem dX6_plant_26 : decode cX6_plant 26 = .ok (.getfield 150, 3) := by decide +kernel
theorem dX6_plant_29 : decode cX6_plant 29 = .ok (.lload_n 2, 1) := by decide +kernel
theorem dX6_plant_30 : decode cX6_plant 30 = .ok (.lload 4, 2) := by decide +kernel
theorem dX6_plant_32 : decode cX6_plant 32 = .ok (.invokevirtual 177, 3) := by decide +kernel
theorem dX6_plant_35 : decode cX6_plant 35 = .ok (.ifCond .eq 7, 3) := by decide +kernel
theorem dX6_plant_38 : decode cX6_plant 38 = .ok (.iconst 0, 1) := by decide +kernel
theorem dX6_plant_39 : decode cX6_plant 39 = .ok (.goto 5, 3) := by decide +kernel
theorem dX6_plant_42 : decode cX6_plant 42 = .ok (.bipush (-30), 2) := by decide +kernel
theorem dX6_plant_44 : decode cX6_plant 44 = .ok (.ireturn, 1) := by decide +kernel
theorem dX6_check_0 : decode cX6_check 0 = .ok (.aload_n 0, 1) := by decide +kernel
theorem dX6_check_1 : decode cX6_check 1 = .ok (.invokevirtual 181, 3) := by decide +kernel
theorem dX6_check_4 : decode cX6_check 4 = .ok (.ifCond .ne 6, 3) := by decide +kernel
theorem dX6_check_7 : decode cX6_check 7 = .ok (.bipush (-2), 2) := by decide +kernel
theorem dX6_check_9 : decode cX6_check 9 = .ok (.ireturn, 1) := by decide +kernel
theorem dX6_check_10 : decode cX6_check 10 = .ok (.iconst 1, 1) := by decide +kernel
theorem dX6_check_11 : decode cX6_check 11 = .ok (.istore_n 1, 1) := by decide +kernel
theorem dX6_check_12 : decode cX6_check 12 = .ok (.iconst 0, 1) := by decide +kernel
theorem dX6_check_13 : decode cX6_check 13 = .ok (.istore_n 2, 1) := by decide +kernel
theorem dX6_check_14 : decode cX6_check 14 = .ok (.iload_n 2, 1) := by decide +kernel
theorem dX6_check_15 : decode cX6_check 15 = .ok (.aload_n 0, 1) := by decide +kernel
theorem dX6_check_16 : decode cX6_check 16 = .ok (.getfield 60, 3) := by decide +kernel
theorem dX6_check_19 : decode cX6_check 19 = .ok (.if_icmp .gt 65, 3) := by decide +kernel
theorem dX6_check_22 : decode cX6_check 22 = .ok (.iconst 0, 1) := by decide +kernel
theorem dX6_check_23 : decode cX6_check 23 = .ok (.istore_n 3, 1) := by decide +kernel
theorem dX6_check_24 : decode cX6_check 24 = .ok (.iload_n 3, 1) := by decide +kernel
theorem dX6_check_25 : decode cX6_check 25 = .ok (.aload_n 0, 1) := by decide +kernel
theorem dX6_check_26 : decode cX6_check 26 = .ok (.getfield 60, 3) := by decide +kernel
theorem dX6_check_29 : decode cX6_check 29 = .ok (.if_icmp .gt 49, 3) := by decide +kernel
theorem dX6_check_32 : decode cX6_check 32 = .ok (.aload_n 0, 1) := by decide +kernel
theorem dX6_check_33 : decode cX6_check 33 = .ok (.iload_n 2, 1) := by decide +kernel
theorem dX6_check_34 : decode cX6_check 34 = .ok (.iload_n 3, 1) := by decide +kernel
theorem dX6_check_35 : decode cX6_check 35 = .ok (.invokevirtual 185, 3) := by decide +kernel
theorem dX6_check_38 : decode cX6_check 38 = .ok (.ifCond .ne 5, 3) := by decide +kernel
theorem dX6_check_41 : decode cX6_check 41 = .ok (.iconst 2, 1) := by decide +kernel
theorem dX6_check_42 : decode cX6_check 42 = .ok (.ireturn, 1) := by decide +kernel
theorem dX6_check_43 : decode cX6_check 43 = .ok (.iload_n 1, 1) := by decide +kernel
theorem dX6_check_44 : decode cX6_check 44 = .ok (.ifCond .eq 26, 3) := by decide +kernel
theorem dX6_check_47 : decode cX6_check 47 = .ok (.aload_n 0, 1) := by decide +kernel
theorem dX6_check_48 : decode cX6_check 48 = .ok (.getfield 54, 3) := by decide +kernel
theorem dX6_check_51 : decode cX6_check 51 = .ok (.aload_n 0, 1) := by decide +kernel
theorem dX6_check_52 : decode cX6_check 52 = .ok (.getfield 26, 3) := by decide +kernel
theorem dX6_check_55 : decode cX6_check 55 = .ok (.iload_n 2, 1) := by decide +kernel
theorem dX6_check_56 : decode cX6_check 56 = .ok (.iload_n 3, 1) := by decide +kernel
theorem dX6_check_57 : decode cX6_check 57 = .ok (.invokevirtual 189, 3) := by decide +kernel
theorem dX6_check_60 : decode cX6_check 60 = .ok (.invokevirtual 193, 3) := by decide +kernel
theorem dX6_check_63 : decode cX6_check 63 = .ok (.ifCond .eq 7, 3) := by decide +kernel
theorem dX6_check_66 : decode cX6_check 66 = .ok (.iconst 1, 1) := by decide +kernel
theorem dX6_check_67 : decode cX6_check 67 = .ok (.goto 4, 3) := by decide +kernel
theorem dX6_check_70 : decode cX6_check 70 = .ok (.iconst 0, 1) := by decide +kernel
theorem dX6_check_71 : decode cX6_check 71 = .ok (.istore_n 1, 1) := by decide +kernel
theorem dX6_check_72 : decode cX6_check 72 = .ok (.iinc 3 1, 3) := by decide +kernel
theorem dX6_check_75 : decode cX6_check 75 = .ok (.goto (-51), 3) := by decide +kernel
theorem dX6_check_78 : decode cX6_check 78 = .ok (.iinc 2 1, 3) := by decide +kernel
theorem dX6_check_81 : decode cX6_check 81 = .ok (.goto (-67), 3) := by decide +kernel
theorem dX6_check_84 : decode cX6_check 84 = .ok (.iload_n 1, 1) := by decide +kernel
theorem dX6_check_85 : decode cX6_check 85 = .ok (.ifCond .eq 7, 3) := by decide +kernel
theorem dX6_check_88 : decode cX6_check 88 = .ok (.iconst 1, 1) := by decide +kernel
theorem dX6_check_89 : decode cX6_check 89 = .ok (.goto 4, 3) := by decide +kernel
theorem dX6_check_92 : decode cX6_check 92 = .ok (.iconst 0, 1) := by decide +kernel
theorem dX6_check_93 : decode cX6_check 93 = .ok (.ireturn, 1) := by decide +kernel
theorem dX6_equal_0 : decode cX6_equal 0 = .ok (.aload_n 0, 1) := by decide +kernel
theorem dX6_equal_1 : decode cX6_equal 1 = .ok (.invokevirtual 181, 3) := by decide +kernel
theorem dX6_equal_4 : decode cX6_equal 4 = .ok (.ifCond .ne 6, 3) := by decide +kernel
theorem dX6_equal_7 : decode cX6_equal 7 = .ok (.bipush (-2), 2) := by decide +kernel
theorem dX6_equal_9 : decode cX6_equal 9 = .ok (.ireturn, 1) := by decide +kernel
theorem dX6_equal_10 : decode cX6_equal 10 = .ok (.aload_n 0, 1) := by decide +kernel
theorem dX6_equal_11 : decode cX6_equal 11 = .ok (.getfield 43, 3) := by decide +kernel
theorem dX6_equal_14 : decode cX6_equal 14 = .ok (.iconst 0, 1) := by decide +kernel
theorem dX6_equal_15 : decode cX6_equal 15 = .ok (.putfield 77, 3) := by decide +kernel
theorem dX6_equal_18 : decode cX6_equal 18 = .ok (.aload_n 0, 1) := by decide +kernel
theorem dX6_equal_19 : decode cX6_equal 19 = .ok (.getfield 33, 3) := by decide +kernel
theorem dX6_equal_22 : decode cX6_equal 22 = .ok (.getfield 197, 3) := by decide +kernel
theorem dX6_equal_25 : decode cX6_equal 25 = .ok (.iconst 0, 1) := by decide +kernel
theorem dX6_equal_26 : decode cX6_equal 26 = .ok (.baload, 1) := by decide +kernel
theorem dX6_equal_27 : decode cX6_equal 27 = .ok (.ifCond .ne 5, 3) := by decide +kernel
theorem dX6_equal_30 : decode cX6_equal 30 = .ok (.iconst 0, 1) := by decide +kernel
theorem dX6_equal_31 : decode cX6_equal 31 = .ok (.ireturn, 1) := by decide +kernel
theorem dX6_equal_32 : decode cX6_equal 32 = .ok (.aload_n 0, 1) := by decide +kernel
theorem dX6_equal_33 : decode cX6_equal 33 = .ok (.getfield 33, 3) := by decide +kernel
theorem dX6_equal_36 : decode cX6_equal 36 = .ok (.invokevirtual 201, 3) := by decide +kernel
theorem dX6_equal_39 : decode cX6_equal 39 = .ok (.ifCond .eq 24, 3) := by decide +kernel
theorem dX6_equal_42 : decode cX6_equal 42 = .ok (.aload_n 0, 1) := by decide +kernel
theorem dX6_equal_43 : decode cX6_equal 43 = .ok (.getfield 43, 3) := by decide +kernel
theorem dX6_equal_46 : decode cX6_equal 46 = .ok (.aload_n 0, 1) := by decide +kernel
theorem dX6_equal_47 : decode cX6_equal 47 = .ok (.getfield 33, 3) := by decide +kernel
theorem dX6_equal_50 : decode cX6_equal 50 = .ok (.getfield 204, 3) := by decide +kernel
theorem dX6_equal_53 : decode cX6_equal 53 = .ok (.aload_n 0, 1) := by decide +kernel
theorem dX6_equal_54 : decode cX6_equal 54 = .ok (.getfield 60, 3) := by decide +kernel
theorem dX6_equal_57 : decode cX6_equal 57 = .ok (.invokevirtual 207, 3) := by decide +kernel
theorem dX6_equal_60 : decode cX6_equal 60 = .ok (.ifCond .ne 5, 3) := by decide +kernel
theorem dX6_equal_63 : decode cX6_equal 63 = .ok (.iconst 2, 1) := by decide +kernel
theorem dX6_equal_64 : decode cX6_equal 64 = .ok (.ireturn, 1) := by decide +kernel
theorem dX6_equal_65 : decode cX6_equal 65 = .ok (.aload_n 0, 1) := by decide +kernel
theorem dX6_equal_66 : decode cX6_equal 66 = .ok (.getfield 43, 3) := by decide +kernel
theorem dX6_equal_69 : decode cX6_equal 69 = .ok (.iconst 1, 1) := by decide +kernel
theorem dX6_equal_70 : decode cX6_equal 70 = .ok (.putfield 77, 3) := by decide +kernel
theorem dX6_equal_73 : decode cX6_equal 73 = .ok (.iconst 1, 1) := by decide +kernel
theorem dX6_equal_74 : decode cX6_equal 74 = .ok (.ireturn, 1) := by decide +kernel
theorem dX6_pivot_0 : decode cX6_pivot 0 = .ok (.lload_n 3, 1) := by decide +kernel
theorem dX6_pivot_1 : decode cX6_pivot 1 = .ok (.lconst 0, 1) := by decide +kernel
theorem dX6_pivot_2 : decode cX6_pivot 2 = .ok (.lcmp, 1) := by decide +kernel
theorem dX6_pivot_3 : decode cX6_pivot 3 = .ok (.ifCond .ne 9, 3) := by decide +kernel
theorem dX6_pivot_6 : decode cX6_pivot 6 = .ok (.ldc2_w 211, 3) := by decide +kernel
theorem dX6_pivot_9 : decode cX6_pivot 9 = .ok (.goto 6, 3) := by decide +kernel
theorem dX6_pivot_12 : decode cX6_pivot 12 = .ok (.lload_n 1, 1) := by decide +kernel
theorem dX6_pivot_13 : decode cX6_pivot 13 = .ok (.lload_n 3, 1) := by decide +kernel
theorem dX6_pivot_14 : decode cX6_pivot 14 = .ok (.ldiv, 1) := by decide +kernel
theorem dX6_pivot_15 : decode cX6_pivot 15 = .ok (.lreturn, 1) := by decide +kernel
theorem dX6_count_0 : decode cX6_count 0 = .ok (.iload_n 1, 1) := by decide +kernel
theorem dX6_count_1 : decode cX6_count 1 = .ok (.tableswitch 42 0 2 #[27, 32, 37], 27) := by decide +kernel
theorem dX6_count_28 : decode cX6_count 28 = .ok (.aload_n 0, 1) := by decide +kernel
theorem dX6_count_29 : decode cX6_count 29 = .ok (.getfield 60, 3) := by decide +kernel
theorem dX6_count_32 : decode cX6_count 32 = .ok (.ireturn, 1) := by decide +kernel
theorem dX6_count_33 : decode cX6_count 33 = .ok (.aload_n 0, 1) := by decide +kernel
theorem dX6_count_34 : decode cX6_count 34 = .ok (.getfield 64, 3) := by decide +kernel
theorem dX6_count_37 : decode cX6_count 37 = .ok (.ireturn, 1) := by decide +kernel
theorem dX6_count_38 : decode cX6_count 38 = .ok (.aload_n 0, 1) := by decide +kernel
theorem dX6_count_39 : decode cX6_count 39 = .ok (.getfield 67, 3) := by decide +kernel
theorem dX6_count_42 : decode cX6_count 42 = .ok (.ireturn, 1) := by decide +kernel
theorem dX6_count_43 : decode cX6_count 43 = .ok (.iconst (-1), 1) := by decide +kernel
theorem dX6_count_44 : decode cX6_count 44 = .ok (.ireturn, 1) := by decide +kernel
theorem dX6_isForm_0 : decode cX6_isForm 0 = .ok (.iload_n 1, 1) := by decide +kernel
theorem dX6_isForm_1 : decode cX6_isForm 1 = .ok (.ifCond .lt 15, 3) := by decide +kernel
theorem dX6_isForm_4 : decode cX6_isForm 4 = .ok (.iload_n 1, 1) := by decide +kernel
theorem dX6_isForm_5 : decode cX6_isForm 5 = .ok (.aload_n 0, 1) := by decide +kernel
theorem dX6_isForm_6 : decode cX6_isForm 6 = .ok (.getfield 64, 3) := by decide +kernel
theorem dX6_isForm_9 : decode cX6_isForm 9 = .ok (.if_icmp .ge 7, 3) := by decide +kernel
theorem dX6_isForm_12 : decode cX6_isForm 12 = .ok (.iconst 1, 1) := by decide +kernel
theorem dX6_isForm_13 : decode cX6_isForm 13 = .ok (.goto 4, 3) := by decide +kernel
theorem dX6_isForm_16 : decode cX6_isForm 16 = .ok (.iconst 0, 1) := by decide +kernel
theorem dX6_isForm_17 : decode cX6_isForm 17 = .ok (.ireturn, 1) := by decide +kernel
theorem dX6_isIndex_0 : decode cX6_isIndex 0 = .ok (.iload_n 1, 1) := by decide +kernel
theorem dX6_isIndex_1 : decode cX6_isIndex 1 = .ok (.ifCond .lt 15, 3) := by decide +kernel
theorem dX6_isIndex_4 : decode cX6_isIndex 4 = .ok (.iload_n 1, 1) := by decide +kernel
theorem dX6_isIndex_5 : decode cX6_isIndex 5 = .ok (.aload_n 0, 1) := by decide +kernel
theorem dX6_isIndex_6 : decode cX6_isIndex 6 = .ok (.getfield 60, 3) := by decide +kernel
theorem dX6_isIndex_9 : decode cX6_isIndex 9 = .ok (.if_icmp .gt 7, 3) := by decide +kernel
theorem dX6_isIndex_12 : decode cX6_isIndex 12 = .ok (.iconst 1, 1) := by decide +kernel
theorem dX6_isIndex_13 : decode cX6_isIndex 13 = .ok (.goto 4, 3) := by decide +kernel
theorem dX6_isIndex_16 : decode cX6_isIndex 16 = .ok (.iconst 0, 1) := by decide +kernel
theorem dX6_isIndex_17 : decode cX6_isIndex 17 = .ok (.ireturn, 1) := by decide +kernel
theorem dX6_isSquare_0 : decode cX6_isSquare 0 = .ok (.iload_n 1, 1) := by decide +kernel
theorem dX6_isSquare_1 : decode cX6_isSquare 1 = .ok (.ifCond .lt 17, 3) := by decide +kernel
theorem dX6_isSquare_4 : decode cX6_isSquare 4 = .ok (.iload_n 1, 1) := by decide +kernel
theorem dX6_isSquare_5 : decode cX6_isSquare 5 = .ok (.aload_n 0, 1) := by decide +kernel
theorem dX6_isSquare_6 : decode cX6_isSquare 6 = .ok (.getfield 15, 3) := by decide +kernel
theorem dX6_isSquare_9 : decode cX6_isSquare 9 = .ok (.iconst 1, 1) := by decide +kernel
theorem dX6_isSquare_10 : decode cX6_isSquare 10 = .ok (.iaload, 1) := by decide +kernel
theorem dX6_isSquare_11 : decode cX6_isSquare 11 = .ok (.if_icmp .ge 7, 3) := by decide +kernel
theorem dX6_isSquare_14 : decode cX6_isSquare 14 = .ok (.iconst 1, 1) := by decide +kernel
theorem dX6_isSquare_15 : decode cX6_isSquare 15 = .ok (.goto 4, 3) := by decide +kernel
theorem dX6_isSquare_18 : decode cX6_isSquare 18 = .ok (.iconst 0, 1) := by decide +kernel
theorem dX6_isSquare_19 : decode cX6_isSquare 19 = .ok (.ireturn, 1) := by decide +kernel
theorem dX6_isPart_0 : decode cX6_isPart 0 = .ok (.iload_n 0, 1) := by decide +kernel
theorem dX6_isPart_1 : decode cX6_isPart 1 = .ok (.ifCond .eq 8, 3) := by decide +kernel
theorem dX6_isPart_4 : decode cX6_isPart 4 = .ok (.iload_n 0, 1) := by decide +kernel
theorem dX6_isPart_5 : decode cX6_isPart 5 = .ok (.iconst 1, 1) := by decide +kernel
theorem dX6_isPart_6 : decode cX6_isPart 6 = .ok (.if_icmp .ne 7, 3) := by decide +kernel
theorem dX6_isPart_9 : decode cX6_isPart 9 = .ok (.iconst 1, 1) := by decide +kernel
theorem dX6_isPart_10 : decode cX6_isPart 10 = .ok (.goto 4, 3) := by decide +kernel
theorem dX6_isPart_13 : decode cX6_isPart 13 = .ok (.iconst 0, 1) := by decide +kernel
theorem dX6_isPart_14 : decode cX6_isPart 14 = .ok (.ireturn, 1) := by decide +kernel
theorem dX6_isProved_0 : decode cX6_isProved 0 = .ok (.aload_n 0, 1) := by decide +kernel
theorem dX6_isProved_1 : decode cX6_isProved 1 = .ok (.getfield 15, 3) := by decide +kernel
theorem dX6_isProved_4 : decode cX6_isProved 4 = .ok (.iconst 0, 1) := by decide +kernel
theorem dX6_isProved_5 : decode cX6_isProved 5 = .ok (.iaload, 1) := by decide +kernel
theorem dX6_isProved_6 : decode cX6_isProved 6 = .ok (.iconst 1, 1) := by decide +kernel
theorem dX6_isProved_7 : decode cX6_isProved 7 = .ok (.if_icmp .ne 7, 3) := by decide +kernel
theorem dX6_isProved_10 : decode cX6_isProved 10 = .ok (.iconst 1, 1) := by decide +kernel
theorem dX6_isProved_11 : decode cX6_isProved 11 = .ok (.goto 4, 3) := by decide +kernel
theorem dX6_isProved_14 : decode cX6_isProved 14 = .ok (.iconst 0, 1) := by decide +kernel
theorem dX6_isProved_15 : decode cX6_isProved 15 = .ok (.ireturn, 1) := by decide +kernel
theorem dX6_startTelling_0 : decode cX6_startTelling 0 = .ok (.aload_n 0, 1) := by decide +kernel
theorem dX6_startTelling_1 : decode cX6_startTelling 1 = .ok (.getfield 15, 3) := by decide +kernel
theorem dX6_startTelling_4 : decode cX6_startTelling 4 = .ok (.iconst 0, 1) := by decide +kernel
theorem dX6_startTelling_5 : decode cX6_startTelling 5 = .ok (.invokestatic 71, 3) := by decide +kernel
theorem dX6_startTelling_8 : decode cX6_startTelling 8 = .ok (.aload_n 0, 1) := by decide +kernel
theorem dX6_startTelling_9 : decode cX6_startTelling 9 = .ok (.getfield 15, 3) := by decide +kernel
theorem dX6_startTelling_12 : decode cX6_startTelling 12 = .ok (.iconst 2, 1) := by decide +kernel
theorem dX6_startTelling_13 : decode cX6_startTelling 13 = .ok (.iload_n 1, 1) := by decide +kernel
theorem dX6_startTelling_14 : decode cX6_startTelling 14 = .ok (.iastore, 1) := by decide +kernel
theorem dX6_startTelling_15 : decode cX6_startTelling 15 = .ok (.aload_n 0, 1) := by decide +kernel
theorem dX6_startTelling_16 : decode cX6_startTelling 16 = .ok (.getfield 15, 3) := by decide +kernel
theorem dX6_startTelling_19 : decode cX6_startTelling 19 = .ok (.iconst 3, 1) := by decide +kernel
theorem dX6_startTelling_20 : decode cX6_startTelling 20 = .ok (.iload_n 2, 1) := by decide +kernel
theorem dX6_startTelling_21 : decode cX6_startTelling 21 = .ok (.iastore, 1) := by decide +kernel
theorem dX6_startTelling_22 : decode cX6_startTelling 22 = .ok (.aload_n 0, 1) := by decide +kernel
theorem dX6_startTelling_23 : decode cX6_startTelling 23 = .ok (.getfield 15, 3) := by decide +kernel
theorem dX6_startTelling_26 : decode cX6_startTelling 26 = .ok (.iconst 5, 1) := by decide +kernel
theorem dX6_startTelling_27 : decode cX6_startTelling 27 = .ok (.iconst 1, 1) := by decide +kernel
theorem dX6_startTelling_28 : decode cX6_startTelling 28 = .ok (.iastore, 1) := by decide +kernel
theorem dX6_startTelling_29 : decode cX6_startTelling 29 = .ok (.aload_n 0, 1) := by decide +kernel
theorem dX6_startTelling_30 : decode cX6_startTelling 30 = .ok (.dup, 1) := by decide +kernel
theorem dX6_startTelling_31 : decode cX6_startTelling 31 = .ok (.getfield 67, 3) := by decide +kernel
theorem dX6_startTelling_34 : decode cX6_startTelling 34 = .ok (.iconst 1, 1) := by decide +kernel
theorem dX6_startTelling_35 : decode cX6_startTelling 35 = .ok (.iadd, 1) := by decide +kernel
theorem dX6_startTelling_36 : decode cX6_startTelling 36 = .ok (.putfield 67, 3) := by decide +kernel
theorem dX6_startTelling_39 : decode cX6_startTelling 39 = .ok (.return_, 1) := by decide +kernel
theorem dX6_endTelling_0 : decode cX6_endTelling 0 = .ok (.aload_n 0, 1) := by decide +kernel
theorem dX6_endTelling_1 : decode cX6_endTelling 1 = .ok (.getfield 15, 3) := by decide +kernel
theorem dX6_endTelling_4 : decode cX6_endTelling 4 = .ok (.iconst 0, 1) := by decide +kernel
theorem dX6_endTelling_5 : decode cX6_endTelling 5 = .ok (.iload_n 1, 1) := by decide +kernel
theorem dX6_endTelling_6 : decode cX6_endTelling 6 = .ok (.iastore, 1) := by decide +kernel
theorem dX6_endTelling_7 : decode cX6_endTelling 7 = .ok (.aload_n 0, 1) := by decide +kernel
theorem dX6_endTelling_8 : decode cX6_endTelling 8 = .ok (.getfield 15, 3) := by decide +kernel
theorem dX6_endTelling_11 : decode cX6_endTelling 11 = .ok (.iconst 1, 1) := by decide +kernel
theorem dX6_endTelling_12 : decode cX6_endTelling 12 = .ok (.iload_n 1, 1) := by decide +kernel
theorem dX6_endTelling_13 : decode cX6_endTelling 13 = .ok (.iconst 1, 1) := by decide +kernel
theorem dX6_endTelling_14 : decode cX6_endTelling 14 = .ok (.if_icmp .ne 13, 3) := by decide +kernel
theorem dX6_endTelling_17 : decode cX6_endTelling 17 = .ok (.aload_n 0, 1) := by decide +kernel
theorem dX6_endTelling_18 : decode cX6_endTelling 18 = .ok (.getfield 33, 3) := by decide +kernel
theorem dX6_endTelling_21 : decode cX6_endTelling 21 = .ok (.getfield 213, 3) := by decide +kernel
theorem dX6_endTelling_24 : decode cX6_endTelling 24 = .ok (.goto 4, 3) := by decide +kernel
theorem dX6_endTelling_27 : decode cX6_endTelling 27 = .ok (.iconst 0, 1) := by decide +kernel
theorem dX6_endTelling_28 : decode cX6_endTelling 28 = .ok (.iastore, 1) := by decide +kernel
theorem dX6_endTelling_29 : decode cX6_endTelling 29 = .ok (.aload_n 0, 1) := by decide +kernel
theorem dX6_endTelling_30 : decode cX6_endTelling 30 = .ok (.getfield 43, 3) := by decide +kernel
theorem dX6_endTelling_33 : decode cX6_endTelling 33 = .ok (.iload_n 1, 1) := by decide +kernel
theorem dX6_endTelling_34 : decode cX6_endTelling 34 = .ok (.ifCond .ne 7, 3) := by decide +kernel
theorem dX6_endTelling_37 : decode cX6_endTelling 37 = .ok (.iconst 1, 1) := by decide +kernel
theorem dX6_endTelling_38 : decode cX6_endTelling 38 = .ok (.goto 4, 3) := by decide +kernel
theorem dX6_endTelling_41 : decode cX6_endTelling 41 = .ok (.iconst 0, 1) := by decide +kernel
theorem dX6_endTelling_42 : decode cX6_endTelling 42 = .ok (.putfield 77, 3) := by decide +kernel
theorem dX6_endTelling_45 : decode cX6_endTelling 45 = .ok (.iload_n 1, 1) := by decide +kernel
theorem dX6_endTelling_46 : decode cX6_endTelling 46 = .ok (.ireturn, 1) := by decide +kernel
theorem dX6_pointFound_0 : decode cX6_pointFound 0 = .ok (.aload_n 0, 1) := by decide +kernel
theorem dX6_pointFound_1 : decode cX6_pointFound 1 = .ok (.getfield 33, 3) := by decide +kernel
theorem dX6_pointFound_4 : decode cX6_pointFound 4 = .ok (.invokevirtual 216, 3) := by decide +kernel
theorem dX6_pointFound_7 : decode cX6_pointFound 7 = .ok (.ifCond .eq 29, 3) := by decide +kernel
theorem dX6_pointFound_10 : decode cX6_pointFound 10 = .ok (.aload_n 0, 1) := by decide +kernel
theorem dX6_pointFound_11 : decode cX6_pointFound 11 = .ok (.getfield 43, 3) := by decide +kernel
theorem dX6_pointFound_14 : decode cX6_pointFound 14 = .ok (.aload_n 0, 1) := by decide +kernel
theorem dX6_pointFound_15 : decode cX6_pointFound 15 = .ok (.getfield 33, 3) := by decide +kernel
theorem dX6_pointFound_18 : decode cX6_pointFound 18 = .ok (.getfield 204, 3) := by decide +kernel
theorem dX6_pointFound_21 : decode cX6_pointFound 21 = .ok (.aload_n 1, 1) := by decide +kernel
theorem dX6_pointFound_22 : decode cX6_pointFound 22 = .ok (.aload_n 0, 1) := by decide +kernel
theorem dX6_pointFound_23 : decode cX6_pointFound 23 = .ok (.getfield 60, 3) := by decide +kernel
theorem dX6_pointFound_26 : decode cX6_pointFound 26 = .ok (.invokevirtual 219, 3) := by decide +kernel
theorem dX6_pointFound_29 : decode cX6_pointFound 29 = .ok (.ifCond .eq 7, 3) := by decide +kernel
theorem dX6_pointFound_32 : decode cX6_pointFound 32 = .ok (.iconst 1, 1) := by decide +kernel
theorem dX6_pointFound_33 : decode cX6_pointFound 33 = .ok (.goto 4, 3) := by decide +kernel
theorem dX6_pointFound_36 : decode cX6_pointFound 36 = .ok (.iconst 0, 1) := by decide +kernel
theorem dX6_pointFound_37 : decode cX6_pointFound 37 = .ok (.ireturn, 1) := by decide +kernel
theorem dX6_multiplierFound_0 : decode cX6_multiplierFound 0 = .ok (.iconst 1, 1) := by decide +kernel
theorem dX6_multiplierFound_1 : decode cX6_multiplierFound 1 = .ok (.istore 4, 2) := by decide +kernel
theorem dX6_multiplierFound_3 : decode cX6_multiplierFound 3 = .ok (.iload 4, 2) := by decide +kernel
theorem dX6_multiplierFound_5 : decode cX6_multiplierFound 5 = .ok (.iload_n 3, 1) := by decide +kernel
theorem dX6_multiplierFound_6 : decode cX6_multiplierFound 6 = .ok (.if_icmp .gt 145, 3) := by decide +kernel
theorem dX6_multiplierFound_9 : decode cX6_multiplierFound 9 = .ok (.iconst 1, 1) := by decide +kernel
theorem dX6_multiplierFound_10 : decode cX6_multiplierFound 10 = .ok (.istore 5, 2) := by decide +kernel
theorem dX6_multiplierFound_12 : decode cX6_multiplierFound 12 = .ok (.iload 5, 2) := by decide +kernel
theorem dX6_multiplierFound_14 : decode cX6_multiplierFound 14 = .ok (.iload 4, 2) := by decide +kernel
theorem dX6_multiplierFound_16 : decode cX6_multiplierFound 16 = .ok (.if_icmp .gt 129, 3) := by decide +kernel
theorem dX6_multiplierFound_19 : decode cX6_multiplierFound 19 = .ok (.iload 4, 2) := by decide +kernel
theorem dX6_multiplierFound_21 : decode cX6_multiplierFound 21 = .ok (.iload 5, 2) := by decide +kernel
theorem dX6_multiplierFound_23 : decode cX6_multiplierFound 23 = .ok (.isub, 1) := by decide +kernel
theorem dX6_multiplierFound_24 : decode cX6_multiplierFound 24 = .ok (.istore 6, 2) := by decide +kernel
theorem dX6_multiplierFound_26 : decode cX6_multiplierFound 26 = .ok (.iload 6, 2) := by decide +kernel
theorem dX6_multiplierFound_28 : decode cX6_multiplierFound 28 = .ok (.i2l, 1) := by decide +kernel
theorem dX6_multiplierFound_29 : decode cX6_multiplierFound 29 = .ok (.iload 5, 2) := by decide +kernel
theorem dX6_multiplierFound_31 : decode cX6_multiplierFound 31 = .ok (.i2l, 1) := by decide +kernel
theorem dX6_multiplierFound_32 : decode cX6_multiplierFound 32 = .ok (.invokestatic 223, 3) := by decide +kernel
theorem dX6_multiplierFound_35 : decode cX6_multiplierFound 35 = .ok (.lconst 1, 1) := by decide +kernel
theorem dX6_multiplierFound_36 : decode cX6_multiplierFound 36 = .ok (.lcmp, 1) := by decide +kernel
theorem dX6_multiplierFound_37 : decode cX6_multiplierFound 37 = .ok (.ifCond .eq 6, 3) := by decide +kernel
theorem dX6_multiplierFound_40 : decode cX6_multiplierFound 40 = .ok (.goto 99, 3) := by decide +kernel
theorem dX6_multiplierFound_43 : decode cX6_multiplierFound 43 = .ok (.aload_n 0, 1) := by decide +kernel
theorem dX6_multiplierFound_44 : decode cX6_multiplierFound 44 = .ok (.getfield 15, 3) := by decide +kernel
theorem dX6_multiplierFound_47 : decode cX6_multiplierFound 47 = .ok (.bipush 6, 2) := by decide +kernel
theorem dX6_multiplierFound_49 : decode cX6_multiplierFound 49 = .ok (.dup2, 1) := by decide +kernel
theorem dX6_multiplierFound_50 : decode cX6_multiplierFound 50 = .ok (.iaload, 1) := by decide +kernel
theorem dX6_multiplierFound_51 : decode cX6_multiplierFound 51 = .ok (.iconst 1, 1) := by decide +kernel
theorem dX6_multiplierFound_52 : decode cX6_multiplierFound 52 = .ok (.iadd, 1) := by decide +kernel
theorem dX6_multiplierFound_53 : decode cX6_multiplierFound 53 = .ok (.iastore, 1) := by decide +kernel
theorem dX6_multiplierFound_54 : decode cX6_multiplierFound 54 = .ok (.aload_n 0, 1) := by decide +kernel
theorem dX6_multiplierFound_55 : decode cX6_multiplierFound 55 = .ok (.getfield 50, 3) := by decide +kernel
theorem dX6_multiplierFound_58 : decode cX6_multiplierFound 58 = .ok (.iload 6, 2) := by decide +kernel
theorem dX6_multiplierFound_60 : decode cX6_multiplierFound 60 = .ok (.i2l, 1) := by decide +kernel
theorem dX6_multiplierFound_61 : decode cX6_multiplierFound 61 = .ok (.iload 5, 2) := by decide +kernel
theorem dX6_multiplierFound_63 : decode cX6_multiplierFound 63 = .ok (.i2l, 1) := by decide +kernel
theorem dX6_multiplierFound_64 : decode cX6_multiplierFound 64 = .ok (.invokevirtual 177, 3) := by decide +kernel
theorem dX6_multiplierFound_67 : decode cX6_multiplierFound 67 = .ok (.ifCond .eq 27, 3) := by decide +kernel
theorem dX6_multiplierFound_70 : decode cX6_multiplierFound 70 = .ok (.aload_n 0, 1) := by decide +kernel
theorem dX6_multiplierFound_71 : decode cX6_multiplierFound 71 = .ok (.getfield 26, 3) := by decide +kernel
theorem dX6_multiplierFound_74 : decode cX6_multiplierFound 74 = .ok (.aload_n 1, 1) := by decide +kernel
theorem dX6_multiplierFound_75 : decode cX6_multiplierFound 75 = .ok (.aload_n 2, 1) := by decide +kernel
theorem dX6_multiplierFound_76 : decode cX6_multiplierFound 76 = .ok (.aload_n 0, 1) := by decide +kernel
theorem dX6_multiplierFound_77 : decode cX6_multiplierFound 77 = .ok (.getfield 50, 3) := by decide +kernel
theorem dX6_multiplierFound_80 : decode cX6_multiplierFound 80 = .ok (.aload_n 0, 1) := by decide +kernel
theorem dX6_multiplierFound_81 : decode cX6_multiplierFound 81 = .ok (.getfield 60, 3) := by decide +kernel
theorem dX6_multiplierFound_84 : decode cX6_multiplierFound 84 = .ok (.invokevirtual 227, 3) := by decide +kernel
theorem dX6_multiplierFound_87 : decode cX6_multiplierFound 87 = .ok (.ifCond .eq 7, 3) := by decide +kernel
theorem dX6_multiplierFound_90 : decode cX6_multiplierFound 90 = .ok (.iconst 1, 1) := by decide +kernel
theorem dX6_multiplierFound_91 : decode cX6_multiplierFound 91 = .ok (.goto 4, 3) := by decide +kernel
theorem dX6_multiplierFound_94 : decode cX6_multiplierFound 94 = .ok (.iconst 0, 1) := by decide +kernel
theorem dX6_multiplierFound_95 : decode cX6_multiplierFound 95 = .ok (.istore 7, 2) := by decide +kernel
theorem dX6_multiplierFound_97 : decode cX6_multiplierFound 97 = .ok (.iload 7, 2) := by decide +kernel
theorem dX6_multiplierFound_99 : decode cX6_multiplierFound 99 = .ok (.ifCond .eq 40, 3) := by decide +kernel
theorem dX6_multiplierFound_102 : decode cX6_multiplierFound 102 = .ok (.aload_n 0, 1) := by decide +kernel
theorem dX6_multiplierFound_103 : decode cX6_multiplierFound 103 = .ok (.getfield 33, 3) := by decide +kernel
theorem dX6_multiplierFound_106 : decode cX6_multiplierFound 106 = .ok (.aload_n 0, 1) := by decide +kernel
theorem dX6_multiplierFound_107 : decode cX6_multiplierFound 107 = .ok (.getfield 26, 3) := by decide +kernel
theorem dX6_multiplierFound_110 : decode cX6_multiplierFound 110 = .ok (.aload_n 0, 1) := by decide +kernel
theorem dX6_multiplierFound_111 : decode cX6_multiplierFound 111 = .ok (.getfield 60, 3) := by decide +kernel
theorem dX6_multiplierFound_114 : decode cX6_multiplierFound 114 = .ok (.invokevirtual 120, 3) := by decide +kernel
theorem dX6_multiplierFound_117 : decode cX6_multiplierFound 117 = .ok (.iconst 1, 1) := by decide +kernel
theorem dX6_multiplierFound_118 : decode cX6_multiplierFound 118 = .ok (.if_icmp .ne 21, 3) := by decide +kernel
theorem dX6_multiplierFound_121 : decode cX6_multiplierFound 121 = .ok (.aload_n 0, 1) := by decide +kernel
theorem dX6_multiplierFound_122 : decode cX6_multiplierFound 122 = .ok (.getfield 15, 3) := by decide +kernel
theorem dX6_multiplierFound_125 : decode cX6_multiplierFound 125 = .ok (.iconst 4, 1) := by decide +kernel
theorem dX6_multiplierFound_126 : decode cX6_multiplierFound 126 = .ok (.iload 6, 2) := by decide +kernel
theorem dX6_multiplierFound_128 : decode cX6_multiplierFound 128 = .ok (.iastore, 1) := by decide +kernel
theorem dX6_multiplierFound_129 : decode cX6_multiplierFound 129 = .ok (.aload_n 0, 1) := by decide +kernel
theorem dX6_multiplierFound_130 : decode cX6_multiplierFound 130 = .ok (.getfield 15, 3) := by decide +kernel
theorem dX6_multiplierFound_133 : decode cX6_multiplierFound 133 = .ok (.iconst 5, 1) := by decide +kernel
theorem dX6_multiplierFound_134 : decode cX6_multiplierFound 134 = .ok (.iload 5, 2) := by decide +kernel
theorem dX6_multiplierFound_136 : decode cX6_multiplierFound 136 = .ok (.iastore, 1) := by decide +kernel
theorem dX6_multiplierFound_137 : decode cX6_multiplierFound 137 = .ok (.iconst 1, 1) := by decide +kernel
theorem dX6_multiplierFound_138 : decode cX6_multiplierFound 138 = .ok (.ireturn, 1) := by decide +kernel
theorem dX6_multiplierFound_139 : decode cX6_multiplierFound 139 = .ok (.iinc 5 1, 3) := by decide +kernel
theorem dX6_multiplierFound_142 : decode cX6_multiplierFound 142 = .ok (.goto (-130), 3) := by decide +kernel
theorem dX6_multiplierFound_145 : decode cX6_multiplierFound 145 = .ok (.iinc 4 1, 3) := by decide +kernel
theorem dX6_multiplierFound_148 : decode cX6_multiplierFound 148 = .ok (.goto (-145), 3) := by decide +kernel
theorem dX6_multiplierFound_151 : decode cX6_multiplierFound 151 = .ok (.iconst 0, 1) := by decide +kernel
theorem dX6_multiplierFound_152 : decode cX6_multiplierFound 152 = .ok (.ireturn, 1) := by decide +kernel
theorem dX6_wholePointFound_0 : decode cX6_wholePointFound 0 = .ok (.iconst 1, 1) := by decide +kernel
theorem dX6_wholePointFound_1 : decode cX6_wholePointFound 1 = .ok (.istore_n 3, 1) := by decide +kernel
theorem dX6_wholePointFound_2 : decode cX6_wholePointFound 2 = .ok (.aload_n 0, 1) := by decide +kernel
theorem dX6_wholePointFound_3 : decode cX6_wholePointFound 3 = .ok (.getfield 19, 3) := by decide +kernel
theorem dX6_wholePointFound_6 : decode cX6_wholePointFound 6 = .ok (.iconst 0, 1) := by decide +kernel
theorem dX6_wholePointFound_7 : decode cX6_wholePointFound 7 = .ok (.lconst 1, 1) := by decide +kernel
theorem dX6_wholePointFound_8 : decode cX6_wholePointFound 8 = .ok (.lastore, 1) := by decide +kernel
theorem dX6_wholePointFound_9 : decode cX6_wholePointFound 9 = .ok (.iconst 1, 1) := by decide +kernel
theorem dX6_wholePointFound_10 : decode cX6_wholePointFound 10 = .ok (.istore 4, 2) := by decide +kernel
theorem dX6_wholePointFound_12 : decode cX6_wholePointFound 12 = .ok (.iload 4, 2) := by decide +kernel
theorem dX6_wholePointFound_14 : decode cX6_wholePointFound 14 = .ok (.aload_n 0, 1) := by decide +kernel
theorem dX6_wholePointFound_15 : decode cX6_wholePointFound 15 = .ok (.getfield 60, 3) := by decide +kernel
theorem dX6_wholePointFound_18 : decode cX6_wholePointFound 18 = .ok (.if_icmp .gt 24, 3) := by decide +kernel
theorem dX6_wholePointFound_21 : decode cX6_wholePointFound 21 = .ok (.aload_n 0, 1) := by decide +kernel
theorem dX6_wholePointFound_22 : decode cX6_wholePointFound 22 = .ok (.getfield 19, 3) := by decide +kernel
theorem dX6_wholePointFound_25 : decode cX6_wholePointFound 25 = .ok (.iload 4, 2) := by decide +kernel
theorem dX6_wholePointFound_27 : decode cX6_wholePointFound 27 = .ok (.ldc2_w 231, 3) := by decide +kernel
theorem dX6_wholePointFound_30 : decode cX6_wholePointFound 30 = .ok (.lastore, 1) := by decide +kernel
theorem dX6_wholePointFound_31 : decode cX6_wholePointFound 31 = .ok (.iload_n 3, 1) := by decide +kernel
theorem dX6_wholePointFound_32 : decode cX6_wholePointFound 32 = .ok (.bipush 7, 2) := by decide +kernel
theorem dX6_wholePointFound_34 : decode cX6_wholePointFound 34 = .ok (.imul, 1) := by decide +kernel
theorem dX6_wholePointFound_35 : decode cX6_wholePointFound 35 = .ok (.istore_n 3, 1) := by decide +kernel
theorem dX6_wholePointFound_36 : decode cX6_wholePointFound 36 = .ok (.iinc 4 1, 3) := by decide +kernel
theorem dX6_wholePointFound_39 : decode cX6_wholePointFound 39 = .ok (.goto (-27), 3) := by decide +kernel
theorem dX6_wholePointFound_42 : decode cX6_wholePointFound 42 = .ok (.iconst 0, 1) := by decide +kernel
theorem dX6_wholePointFound_43 : decode cX6_wholePointFound 43 = .ok (.istore 4, 2) := by decide +kernel
theorem dX6_wholePointFound_45 : decode cX6_wholePointFound 45 = .ok (.iload 4, 2) := by decide +kernel
theorem dX6_wholePointFound_47 : decode cX6_wholePointFound 47 = .ok (.iload_n 3, 1) := by decide +kernel
theorem dX6_wholePointFound_48 : decode cX6_wholePointFound 48 = .ok (.if_icmp .ge 64, 3) := by decide +kernel
theorem dX6_wholePointFound_51 : decode cX6_wholePointFound 51 = .ok (.aload_n 2, 1) := by decide +kernel
theorem dX6_wholePointFound_52 : decode cX6_wholePointFound 52 = .ok (.aload_n 0, 1) := by decide +kernel
theorem dX6_wholePointFound_53 : decode cX6_wholePointFound 53 = .ok (.getfield 19, 3) := by decide +kernel
theorem dX6_wholePointFound_56 : decode cX6_wholePointFound 56 = .ok (.aload_n 0, 1) := by decide +kernel
theorem dX6_wholePointFound_57 : decode cX6_wholePointFound 57 = .ok (.getfield 60, 3) := by decide +kernel
theorem dX6_wholePointFound_60 : decode cX6_wholePointFound 60 = .ok (.invokevirtual 104, 3) := by decide +kernel
theorem dX6_wholePointFound_63 : decode cX6_wholePointFound 63 = .ok (.lconst 0, 1) := by decide +kernel
theorem dX6_wholePointFound_64 : decode cX6_wholePointFound 64 = .ok (.lcmp, 1) := by decide +kernel
theorem dX6_wholePointFound_65 : decode cX6_wholePointFound 65 = .ok (.ifCond .lt 37, 3) := by decide +kernel
theorem dX6_wholePointFound_68 : decode cX6_wholePointFound 68 = .ok (.aload_n 1, 1) := by decide +kernel
theorem dX6_wholePointFound_69 : decode cX6_wholePointFound 69 = .ok (.aload_n 0, 1) := by decide +kernel
theorem dX6_wholePointFound_70 : decode cX6_wholePointFound 70 = .ok (.getfield 19, 3) := by decide +kernel
theorem dX6_wholePointFound_73 : decode cX6_wholePointFound 73 = .ok (.aload_n 0, 1) := by decide +kernel
theorem dX6_wholePointFound_74 : decode cX6_wholePointFound 74 = .ok (.getfield 60, 3) := by decide +kernel
theorem dX6_wholePointFound_77 : decode cX6_wholePointFound 77 = .ok (.invokevirtual 104, 3) := by decide +kernel
theorem dX6_wholePointFound_80 : decode cX6_wholePointFound 80 = .ok (.lconst 0, 1) := by decide +kernel
theorem dX6_wholePointFound_81 : decode cX6_wholePointFound 81 = .ok (.lcmp, 1) := by decide +kernel
theorem dX6_wholePointFound_82 : decode cX6_wholePointFound 82 = .ok (.ifCond .ge 20, 3) := by decide +kernel
theorem dX6_wholePointFound_85 : decode cX6_wholePointFound 85 = .ok (.aload_n 0, 1) := by decide +kernel
theorem dX6_wholePointFound_86 : decode cX6_wholePointFound 86 = .ok (.getfield 43, 3) := by decide +kernel
theorem dX6_wholePointFound_89 : decode cX6_wholePointFound 89 = .ok (.aload_n 0, 1) := by decide +kernel
theorem dX6_wholePointFound_90 : decode cX6_wholePointFound 90 = .ok (.getfield 19, 3) := by decide +kernel
theorem dX6_wholePointFound_93 : decode cX6_wholePointFound 93 = .ok (.aload_n 0, 1) := by decide +kernel
theorem dX6_wholePointFound_94 : decode cX6_wholePointFound 94 = .ok (.getfield 60, 3) := by decide +kernel
theorem dX6_wholePointFound_97 : decode cX6_wholePointFound 97 = .ok (.invokevirtual 233, 3) := by decide +kernel
theorem dX6_wholePointFound_100 : decode cX6_wholePointFound 100 = .ok (.iconst 1, 1) := by decide +kernel
theorem dX6_wholePointFound_101 : decode cX6_wholePointFound 101 = .ok (.ireturn, 1) := by decide +kernel
theorem dX6_wholePointFound_102 : decode cX6_wholePointFound 102 = .ok (.aload_n 0, 1) := by decide +kernel
theorem dX6_wholePointFound_103 : decode cX6_wholePointFound 103 = .ok (.invokevirtual 237, 3) := by decide +kernel
theorem dX6_wholePointFound_106 : decode cX6_wholePointFound 106 = .ok (.iinc 4 1, 3) := by decide +kernel
theorem dX6_wholePointFound_109 : decode cX6_wholePointFound 109 = .ok (.goto (-64), 3) := by decide +kernel
theorem dX6_wholePointFound_112 : decode cX6_wholePointFound 112 = .ok (.iconst 0, 1) := by decide +kernel
theorem dX6_wholePointFound_113 : decode cX6_wholePointFound 113 = .ok (.ireturn, 1) := by decide +kernel
theorem dX6_nextOnGrid_0 : decode cX6_nextOnGrid 0 = .ok (.aload_n 0, 1) := by decide +kernel
theorem dX6_nextOnGrid_1 : decode cX6_nextOnGrid 1 = .ok (.getfield 60, 3) := by decide +kernel
theorem dX6_nextOnGrid_4 : decode cX6_nextOnGrid 4 = .ok (.istore_n 1, 1) := by decide +kernel
theorem dX6_nextOnGrid_5 : decode cX6_nextOnGrid 5 = .ok (.iload_n 1, 1) := by decide +kernel
theorem dX6_nextOnGrid_6 : decode cX6_nextOnGrid 6 = .ok (.iconst 1, 1) := by decide +kernel
theorem dX6_nextOnGrid_7 : decode cX6_nextOnGrid 7 = .ok (.if_icmp .lt 42, 3) := by decide +kernel
theorem dX6_nextOnGrid_10 : decode cX6_nextOnGrid 10 = .ok (.aload_n 0, 1) := by decide +kernel
theorem dX6_nextOnGrid_11 : decode cX6_nextOnGrid 11 = .ok (.getfield 19, 3) := by decide +kernel
theorem dX6_nextOnGrid_14 : decode cX6_nextOnGrid 14 = .ok (.iload_n 1, 1) := by decide +kernel
theorem dX6_nextOnGrid_15 : decode cX6_nextOnGrid 15 = .ok (.laload, 1) := by decide +kernel
theorem dX6_nextOnGrid_16 : decode cX6_nextOnGrid 16 = .ok (.ldc2_w 240, 3) := by decide +kernel
theorem dX6_nextOnGrid_19 : decode cX6_nextOnGrid 19 = .ok (.lcmp, 1) := by decide +kernel
theorem dX6_nextOnGrid_20 : decode cX6_nextOnGrid 20 = .ok (.ifCond .ge 14, 3) := by decide +kernel
theorem dX6_nextOnGrid_23 : decode cX6_nextOnGrid 23 = .ok (.aload_n 0, 1) := by decide +kernel
theorem dX6_nextOnGrid_24 : decode cX6_nextOnGrid 24 = .ok (.getfield 19, 3) := by decide +kernel
theorem dX6_nextOnGrid_27 : decode cX6_nextOnGrid 27 = .ok (.iload_n 1, 1) := by decide +kernel
theorem dX6_nextOnGrid_28 : decode cX6_nextOnGrid 28 = .ok (.dup2, 1) := by decide +kernel
theorem dX6_nextOnGrid_29 : decode cX6_nextOnGrid 29 = .ok (.laload, 1) := by decide +kernel
theorem dX6_nextOnGrid_30 : decode cX6_nextOnGrid 30 = .ok (.lconst 1, 1) := by decide +kernel
theorem dX6_nextOnGrid_31 : decode cX6_nextOnGrid 31 = .ok (.ladd, 1) := by decide +kernel
theorem dX6_nextOnGrid_32 : decode cX6_nextOnGrid 32 = .ok (.lastore, 1) := by decide +kernel
theorem dX6_nextOnGrid_33 : decode cX6_nextOnGrid 33 = .ok (.return_, 1) := by decide +kernel
theorem dX6_nextOnGrid_34 : decode cX6_nextOnGrid 34 = .ok (.aload_n 0, 1) := by decide +kernel
theorem dX6_nextOnGrid_35 : decode cX6_nextOnGrid 35 = .ok (.getfield 19, 3) := by decide +kernel
theorem dX6_nextOnGrid_38 : decode cX6_nextOnGrid 38 = .ok (.iload_n 1, 1) := by decide +kernel
theorem dX6_nextOnGrid_39 : decode cX6_nextOnGrid 39 = .ok (.ldc2_w 231, 3) := by decide +kernel
theorem dX6_nextOnGrid_42 : decode cX6_nextOnGrid 42 = .ok (.lastore, 1) := by decide +kernel
theorem dX6_nextOnGrid_43 : decode cX6_nextOnGrid 43 = .ok (.iinc 1 (-1), 3) := by decide +kernel
theorem dX6_nextOnGrid_46 : decode cX6_nextOnGrid 46 = .ok (.goto (-41), 3) := by decide +kernel
theorem dX6_nextOnGrid_49 : decode cX6_nextOnGrid 49 = .ok (.return_, 1) := by decide +kernel
theorem dX6_expand_0 : decode cX6_expand 0 = .ok (.aload_n 0, 1) := by decide +kernel
theorem dX6_expand_1 : decode cX6_expand 1 = .ok (.getfield 54, 3) := by decide +kernel
theorem dX6_expand_4 : decode cX6_expand 4 = .ok (.lconst 0, 1) := by decide +kernel
theorem dX6_expand_5 : decode cX6_expand 5 = .ok (.lconst 1, 1) := by decide +kernel
theorem dX6_expand_6 : decode cX6_expand 6 = .ok (.invokevirtual 177, 3) := by decide +kernel
theorem dX6_expand_9 : decode cX6_expand 9 = .ok (.pop, 1) := by decide +kernel
theorem dX6_expand_10 : decode cX6_expand 10 = .ok (.iconst 0, 1) := by decide +kernel
theorem dX6_expand_11 : decode cX6_expand 11 = .ok (.istore_n 3, 1) := by decide +kernel
theorem dX6_expand_12 : decode cX6_expand 12 = .ok (.iload_n 3, 1) := by decide +kernel
theorem dX6_expand_13 : decode cX6_expand 13 = .ok (.aload_n 0, 1) := by decide +kernel
theorem dX6_expand_14 : decode cX6_expand 14 = .ok (.getfield 15, 3) := by decide +kernel
theorem dX6_expand_17 : decode cX6_expand 17 = .ok (.iconst 1, 1) := by decide +kernel
theorem dX6_expand_18 : decode cX6_expand 18 = .ok (.iaload, 1) := by decide +kernel
theorem dX6_expand_19 : decode cX6_expand 19 = .ok (.if_icmp .ge 95, 3) := by decide +kernel
theorem dX6_expand_22 : decode cX6_expand 22 = .ok (.aload_n 0, 1) := by decide +kernel
theorem dX6_expand_23 : decode cX6_expand 23 = .ok (.getfield 33, 3) := by decide +kernel
theorem dX6_expand_26 : decode cX6_expand 26 = .ok (.getfield 146, 3) := by decide +kernel
theorem dX6_expand_29 : decode cX6_expand 29 = .ok (.iload_n 3, 1) := by decide +kernel
theorem dX6_expand_30 : decode cX6_expand 30 = .ok (.aaload, 1) := by decide +kernel
theorem dX6_expand_31 : decode cX6_expand 31 = .ok (.astore 4, 2) := by decide +kernel
theorem dX6_expand_33 : decode cX6_expand 33 = .ok (.aload_n 0, 1) := by decide +kernel
theorem dX6_expand_34 : decode cX6_expand 34 = .ok (.getfield 57, 3) := by decide +kernel
theorem dX6_expand_37 : decode cX6_expand 37 = .ok (.aload 4, 2) := by decide +kernel
theorem dX6_expand_39 : decode cX6_expand 39 = .ok (.getfield 150, 3) := by decide +kernel
theorem dX6_expand_42 : decode cX6_expand 42 = .ok (.aload 4, 2) := by decide +kernel
theorem dX6_expand_44 : decode cX6_expand 44 = .ok (.getfield 159, 3) := by decide +kernel
theorem dX6_expand_47 : decode cX6_expand 47 = .ok (.iload_n 1, 1) := by decide +kernel
theorem dX6_expand_48 : decode cX6_expand 48 = .ok (.aaload, 1) := by decide +kernel
theorem dX6_expand_49 : decode cX6_expand 49 = .ok (.invokevirtual 242, 3) := by decide +kernel
theorem dX6_expand_52 : decode cX6_expand 52 = .ok (.ifCond .eq 46, 3) := by decide +kernel
theorem dX6_expand_55 : decode cX6_expand 55 = .ok (.aload_n 0, 1) := by decide +kernel
theorem dX6_expand_56 : decode cX6_expand 56 = .ok (.getfield 57, 3) := by decide +kernel
theorem dX6_expand_59 : decode cX6_expand 59 = .ok (.aload_n 0, 1) := by decide +kernel
theorem dX6_expand_60 : decode cX6_expand 60 = .ok (.getfield 57, 3) := by decide +kernel
theorem dX6_expand_63 : decode cX6_expand 63 = .ok (.aload 4, 2) := by decide +kernel
theorem dX6_expand_65 : decode cX6_expand 65 = .ok (.getfield 159, 3) := by decide +kernel
theorem dX6_expand_68 : decode cX6_expand 68 = .ok (.iload_n 2, 1) := by decide +kernel
theorem dX6_expand_69 : decode cX6_expand 69 = .ok (.aaload, 1) := by decide +kernel
theorem dX6_expand_70 : decode cX6_expand 70 = .ok (.invokevirtual 242, 3) := by decide +kernel
theorem dX6_expand_73 : decode cX6_expand 73 = .ok (.ifCond .eq 25, 3) := by decide +kernel
theorem dX6_expand_76 : decode cX6_expand 76 = .ok (.aload_n 0, 1) := by decide +kernel
theorem dX6_expand_77 : decode cX6_expand 77 = .ok (.getfield 54, 3) := by decide +kernel
theorem dX6_expand_80 : decode cX6_expand 80 = .ok (.aload_n 0, 1) := by decide +kernel
theorem dX6_expand_81 : decode cX6_expand 81 = .ok (.getfield 54, 3) := by decide +kernel
theorem dX6_expand_84 : decode cX6_expand 84 = .ok (.aload_n 0, 1) := by decide +kernel
theorem dX6_expand_85 : decode cX6_expand 85 = .ok (.getfield 57, 3) := by decide +kernel
theorem dX6_expand_88 : decode cX6_expand 88 = .ok (.invokevirtual 246, 3) := by decide +kernel
theorem dX6_expand_91 : decode cX6_expand 91 = .ok (.ifCond .eq 7, 3) := by decide +kernel
theorem dX6_expand_94 : decode cX6_expand 94 = .ok (.iconst 1, 1) := by decide +kernel
theorem dX6_expand_95 : decode cX6_expand 95 = .ok (.goto 4, 3) := by decide +kernel
theorem dX6_expand_98 : decode cX6_expand 98 = .ok (.iconst 0, 1) := by decide +kernel
theorem dX6_expand_99 : decode cX6_expand 99 = .ok (.istore 5, 2) := by decide +kernel
theorem dX6_expand_101 : decode cX6_expand 101 = .ok (.iload 5, 2) := by decide +kernel
theorem dX6_expand_103 : decode cX6_expand 103 = .ok (.ifCond .ne 5, 3) := by decide +kernel
theorem dX6_expand_106 : decode cX6_expand 106 = .ok (.iconst 0, 1) := by decide +kernel
theorem dX6_expand_107 : decode cX6_expand 107 = .ok (.ireturn, 1) := by decide +kernel
theorem dX6_expand_108 : decode cX6_expand 108 = .ok (.iinc 3 1, 3) := by decide +kernel
theorem dX6_expand_111 : decode cX6_expand 111 = .ok (.goto (-99), 3) := by decide +kernel
theorem dX6_expand_114 : decode cX6_expand 114 = .ok (.iconst 1, 1) := by decide +kernel
theorem dX6_expand_115 : decode cX6_expand 115 = .ok (.ireturn, 1) := by decide +kernel
theorem dX6_bits_0 : decode cX6_bits 0 = .ok (.dload_n 0, 1) := by decide +kernel
theorem dX6_bits_1 : decode cX6_bits 1 = .ok (.dconst 0, 1) := by decide +kernel
theorem dX6_bits_2 : decode cX6_bits 2 = .ok (.dcmp .l, 1) := by decide +kernel
theorem dX6_bits_3 : decode cX6_bits 3 = .ok (.ifCond .ne 5, 3) := by decide +kernel
theorem dX6_bits_6 : decode cX6_bits 6 = .ok (.lconst 0, 1) := by decide +kernel
theorem dX6_bits_7 : decode cX6_bits 7 = .ok (.lreturn, 1) := by decide +kernel
theorem dX6_bits_8 : decode cX6_bits 8 = .ok (.dload_n 0, 1) := by decide +kernel
theorem dX6_bits_9 : decode cX6_bits 9 = .ok (.dconst 0, 1) := by decide +kernel
theorem dX6_bits_10 : decode cX6_bits 10 = .ok (.dcmp .g, 1) := by decide +kernel
theorem dX6_bits_11 : decode cX6_bits 11 = .ok (.ifCond .ge 8, 3) := by decide +kernel
theorem dX6_bits_14 : decode cX6_bits 14 = .ok (.dload_n 0, 1) := by decide +kernel
theorem dX6_bits_15 : decode cX6_bits 15 = .ok (.dneg, 1) := by decide +kernel
theorem dX6_bits_16 : decode cX6_bits 16 = .ok (.goto 4, 3) := by decide +kernel
theorem dX6_bits_19 : decode cX6_bits 19 = .ok (.dload_n 0, 1) := by decide +kernel
theorem dX6_bits_20 : decode cX6_bits 20 = .ok (.dstore_n 2, 1) := by decide +kernel
theorem dX6_bits_21 : decode cX6_bits 21 = .ok (.ldc2_w 249, 3) := by decide +kernel
theorem dX6_bits_24 : decode cX6_bits 24 = .ok (.lstore 4, 2) := by decide +kernel
theorem dX6_bits_26 : decode cX6_bits 26 = .ok (.iconst 0, 1) := by decide +kernel
theorem dX6_bits_27 : decode cX6_bits 27 = .ok (.istore 6, 2) := by decide +kernel
theorem dX6_bits_29 : decode cX6_bits 29 = .ok (.iload 6, 2) := by decide +kernel
theorem dX6_bits_31 : decode cX6_bits 31 = .ok (.bipush 64, 2) := by decide +kernel
theorem dX6_bits_33 : decode cX6_bits 33 = .ok (.if_icmp .ge 29, 3) := by decide +kernel
theorem dX6_bits_36 : decode cX6_bits 36 = .ok (.dload_n 2, 1) := by decide +kernel
theorem dX6_bits_37 : decode cX6_bits 37 = .ok (.ldc2_w 251, 3) := by decide +kernel
theorem dX6_bits_40 : decode cX6_bits 40 = .ok (.dcmp .l, 1) := by decide +kernel
theorem dX6_bits_41 : decode cX6_bits 41 = .ok (.ifCond .lt 21, 3) := by decide +kernel
theorem dX6_bits_44 : decode cX6_bits 44 = .ok (.dload_n 2, 1) := by decide +kernel
theorem dX6_bits_45 : decode cX6_bits 45 = .ok (.ldc2_w 251, 3) := by decide +kernel
theorem dX6_bits_48 : decode cX6_bits 48 = .ok (.ddiv, 1) := by decide +kernel
theorem dX6_bits_49 : decode cX6_bits 49 = .ok (.dstore_n 2, 1) := by decide +kernel
theorem dX6_bits_50 : decode cX6_bits 50 = .ok (.lload 4, 2) := by decide +kernel
theorem dX6_bits_52 : decode cX6_bits 52 = .ok (.lconst 1, 1) := by decide +kernel
theorem dX6_bits_53 : decode cX6_bits 53 = .ok (.ladd, 1) := by decide +kernel
theorem dX6_bits_54 : decode cX6_bits 54 = .ok (.lstore 4, 2) := by decide +kernel
theorem dX6_bits_56 : decode cX6_bits 56 = .ok (.iinc 6 1, 3) := by decide +kernel
theorem dX6_bits_59 : decode cX6_bits 59 = .ok (.goto (-30), 3) := by decide +kernel
theorem dX6_bits_62 : decode cX6_bits 62 = .ok (.iconst 0, 1) := by decide +kernel
theorem dX6_bits_63 : decode cX6_bits 63 = .ok (.istore 6, 2) := by decide +kernel
theorem dX6_bits_65 : decode cX6_bits 65 = .ok (.iload 6, 2) := by decide +kernel
theorem dX6_bits_67 : decode cX6_bits 67 = .ok (.bipush 64, 2) := by decide +kernel
theorem dX6_bits_69 : decode cX6_bits 69 = .ok (.if_icmp .ge 27, 3) := by decide +kernel
theorem dX6_bits_72 : decode cX6_bits 72 = .ok (.dload_n 2, 1) := by decide +kernel
theorem dX6_bits_73 : decode cX6_bits 73 = .ok (.dconst 1, 1) := by decide +kernel
theorem dX6_bits_74 : decode cX6_bits 74 = .ok (.dcmp .g, 1) := by decide +kernel
theorem dX6_bits_75 : decode cX6_bits 75 = .ok (.ifCond .ge 21, 3) := by decide +kernel
theorem dX6_bits_78 : decode cX6_bits 78 = .ok (.dload_n 2, 1) := by decide +kernel
theorem dX6_bits_79 : decode cX6_bits 79 = .ok (.ldc2_w 251, 3) := by decide +kernel
theorem dX6_bits_82 : decode cX6_bits 82 = .ok (.dmul, 1) := by decide +kernel
theorem dX6_bits_83 : decode cX6_bits 83 = .ok (.dstore_n 2, 1) := by decide +kernel
theorem dX6_bits_84 : decode cX6_bits 84 = .ok (.lload 4, 2) := by decide +kernel
theorem dX6_bits_86 : decode cX6_bits 86 = .ok (.lconst 1, 1) := by decide +kernel
theorem dX6_bits_87 : decode cX6_bits 87 = .ok (.lsub, 1) := by decide +kernel
theorem dX6_bits_88 : decode cX6_bits 88 = .ok (.lstore 4, 2) := by decide +kernel
theorem dX6_bits_90 : decode cX6_bits 90 = .ok (.iinc 6 1, 3) := by decide +kernel
theorem dX6_bits_93 : decode cX6_bits 93 = .ok (.goto (-28), 3) := by decide +kernel
theorem dX6_bits_96 : decode cX6_bits 96 = .ok (.ldc2_w 253, 3) := by decide +kernel
theorem dX6_bits_99 : decode cX6_bits 99 = .ok (.lstore 6, 2) := by decide +kernel
theorem dX6_bits_101 : decode cX6_bits 101 = .ok (.dload_n 2, 1) := by decide +kernel
theorem dX6_bits_102 : decode cX6_bits 102 = .ok (.lload 6, 2) := by decide +kernel
theorem dX6_bits_104 : decode cX6_bits 104 = .ok (.l2d, 1) := by decide +kernel
theorem dX6_bits_105 : decode cX6_bits 105 = .ok (.dmul, 1) := by decide +kernel
theorem dX6_bits_106 : decode cX6_bits 106 = .ok (.d2l, 1) := by decide +kernel
theorem dX6_bits_107 : decode cX6_bits 107 = .ok (.lload 6, 2) := by decide +kernel
theorem dX6_bits_109 : decode cX6_bits 109 = .ok (.lsub, 1) := by decide +kernel
theorem dX6_bits_110 : decode cX6_bits 110 = .ok (.lstore 8, 2) := by decide +kernel
theorem dX6_bits_112 : decode cX6_bits 112 = .ok (.dload_n 0, 1) := by decide +kernel
theorem dX6_bits_113 : decode cX6_bits 113 = .ok (.dconst 0, 1) := by decide +kernel
theorem dX6_bits_114 : decode cX6_bits 114 = .ok (.dcmp .g, 1) := by decide +kernel
theorem dX6_bits_115 : decode cX6_bits 115 = .ok (.ifCond .ge 9, 3) := by decide +kernel
theorem dX6_bits_118 : decode cX6_bits 118 = .ok (.ldc2_w 255, 3) := by decide +kernel
theorem dX6_bits_121 : decode cX6_bits 121 = .ok (.goto 4, 3) := by decide +kernel
theorem dX6_bits_124 : decode cX6_bits 124 = .ok (.lconst 0, 1) := by decide +kernel
theorem dX6_bits_125 : decode cX6_bits 125 = .ok (.lstore 10, 2) := by decide +kernel
theorem dX6_bits_127 : decode cX6_bits 127 = .ok (.lload 10, 2) := by decide +kernel
theorem dX6_bits_129 : decode cX6_bits 129 = .ok (.lload 4, 2) := by decide +kernel
theorem dX6_bits_131 : decode cX6_bits 131 = .ok (.bipush 52, 2) := by decide +kernel
theorem dX6_bits_133 : decode cX6_bits 133 = .ok (.lshl, 1) := by decide +kernel
theorem dX6_bits_134 : decode cX6_bits 134 = .ok (.lor, 1) := by decide +kernel
theorem dX6_bits_135 : decode cX6_bits 135 = .ok (.lload 8, 2) := by decide +kernel
theorem dX6_bits_137 : decode cX6_bits 137 = .ok (.lor, 1) := by decide +kernel
theorem dX6_bits_138 : decode cX6_bits 138 = .ok (.lreturn, 1) := by decide +kernel
theorem dX6_inOrder_0 : decode cX6_inOrder 0 = .ok (.iload_n 0, 1) := by decide +kernel
theorem dX6_inOrder_1 : decode cX6_inOrder 1 = .ok (.iload_n 1, 1) := by decide +kernel
theorem dX6_inOrder_2 : decode cX6_inOrder 2 = .ok (.if_icmp .ge 9, 3) := by decide +kernel
theorem dX6_inOrder_5 : decode cX6_inOrder 5 = .ok (.iload_n 0, 1) := by decide +kernel
theorem dX6_inOrder_6 : decode cX6_inOrder 6 = .ok (.iconst 1, 1) := by decide +kernel
theorem dX6_inOrder_7 : decode cX6_inOrder 7 = .ok (.iadd, 1) := by decide +kernel
theorem dX6_inOrder_8 : decode cX6_inOrder 8 = .ok (.goto 4, 3) := by decide +kernel
theorem dX6_inOrder_11 : decode cX6_inOrder 11 = .ok (.iconst 0, 1) := by decide +kernel
theorem dX6_inOrder_12 : decode cX6_inOrder 12 = .ok (.ireturn, 1) := by decide +kernel
theorem dX6_rowOfFractions_0 : decode cX6_rowOfFractions 0 = .ok (.iload_n 0, 1) := by decide +kernel
theorem dX6_rowOfFractions_1 : decode cX6_rowOfFractions 1 = .ok (.anewarray 47, 3) := by decide +kernel
theorem dX6_rowOfFractions_4 : decode cX6_rowOfFractions 4 = .ok (.astore_n 1, 1) := by decide +kernel
theorem dX6_rowOfFractions_5 : decode cX6_rowOfFractions 5 = .ok (.iconst 0, 1) := by decide +kernel
theorem dX6_rowOfFractions_6 : decode cX6_rowOfFractions 6 = .ok (.istore_n 2, 1) := by decide +kernel
theorem dX6_rowOfFractions_7 : decode cX6_rowOfFractions 7 = .ok (.iload_n 2, 1) := by decide +kernel
theorem dX6_rowOfFractions_8 : decode cX6_rowOfFractions 8 = .ok (.iload_n 0, 1) := by decide +kernel
theorem dX6_rowOfFractions_9 : decode cX6_rowOfFractions 9 = .ok (.if_icmp .ge 19, 3) := by decide +kernel
theorem dX6_rowOfFractions_12 : decode cX6_rowOfFractions 12 = .ok (.aload_n 1, 1) := by decide +kernel
theorem dX6_rowOfFractions_13 : decode cX6_rowOfFractions 13 = .ok (.iload_n 2, 1) := by decide +kernel
theorem dX6_rowOfFractions_14 : decode cX6_rowOfFractions 14 = .ok (.new 47, 3) := by decide +kernel
theorem dX6_rowOfFractions_17 : decode cX6_rowOfFractions 17 = .ok (.dup, 1) := by decide +kernel
theorem dX6_rowOfFractions_18 : decode cX6_rowOfFractions 18 = .ok (.invokespecial 49, 3) := by decide +kernel
theorem dX6_rowOfFractions_21 : decode cX6_rowOfFractions 21 = .ok (.aastore, 1) := by decide +kernel
theorem dX6_rowOfFractions_22 : decode cX6_rowOfFractions 22 = .ok (.iinc 2 1, 3) := by decide +kernel
theorem dX6_rowOfFractions_25 : decode cX6_rowOfFractions 25 = .ok (.goto (-18), 3) := by decide +kernel
theorem dX6_rowOfFractions_28 : decode cX6_rowOfFractions 28 = .ok (.aload_n 1, 1) := by decide +kernel
theorem dX6_rowOfFractions_29 : decode cX6_rowOfFractions 29 = .ok (.areturn, 1) := by decide +kernel
theorem dX7_init_0 : decode cX7_init 0 = .ok (.aload_n 0, 1) := by decide +kernel
theorem dX7_init_1 : decode cX7_init 1 = .ok (.invokespecial 1, 3) := by decide +kernel
theorem dX7_init_4 : decode cX7_init 4 = .ok (.aload_n 0, 1) := by decide +kernel
theorem dX7_init_5 : decode cX7_init 5 = .ok (.iconst 2, 1) := by decide +kernel
theorem dX7_init_6 : decode cX7_init 6 = .ok (.putfield 7, 3) := by decide +kernel
theorem dX7_init_9 : decode cX7_init 9 = .ok (.aload_n 0, 1) := by decide +kernel
theorem dX7_init_10 : decode cX7_init 10 = .ok (.sipush 300, 3) := by decide +kernel
theorem dX7_init_13 : decode cX7_init 13 = .ok (.newarray .int, 2) := by decide +kernel
theorem dX7_init_15 : decode cX7_init 15 = .ok (.putfield 13, 3) := by decide +kernel
theorem dX7_init_18 : decode cX7_init 18 = .ok (.aload_n 0, 1) := by decide +kernel
theorem dX7_init_19 : decode cX7_init 19 = .ok (.iconst 5, 1) := by decide +kernel
theorem dX7_init_20 : decode cX7_init 20 = .ok (.newarray .int, 2) := by decide +kernel
theorem dX7_init_22 : decode cX7_init 22 = .ok (.putfield 17, 3) := by decide +kernel
theorem dX7_init_25 : decode cX7_init 25 = .ok (.aload_n 0, 1) := by decide +kernel
theorem dX7_init_26 : decode cX7_init 26 = .ok (.bipush 25, 2) := by decide +kernel
theorem dX7_init_28 : decode cX7_init 28 = .ok (.newarray .long, 2) := by decide +kernel
theorem dX7_init_30 : decode cX7_init 30 = .ok (.putfield 20, 3) := by decide +kernel
theorem dX7_init_33 : decode cX7_init 33 = .ok (.aload_n 0, 1) := by decide +kernel
theorem dX7_init_34 : decode cX7_init 34 = .ok (.bipush 25, 2) := by decide +kernel
theorem dX7_init_36 : decode cX7_init 36 = .ok (.newarray .long, 2) := by decide +kernel
theorem dX7_init_38 : decode cX7_init 38 = .ok (.putfield 24, 3) := by decide +kernel
theorem dX7_init_41 : decode cX7_init 41 = .ok (.aload_n 0, 1) := by decide +kernel
theorem dX7_init_42 : decode cX7_init 42 = .ok (.bipush 25, 2) := by decide +kernel
theorem dX7_init_44 : decode cX7_init 44 = .ok (.newarray .long, 2) := by decide +kernel
theorem dX7_init_46 : decode cX7_init 46 = .ok (.putfield 27, 3) := by decide +kernel
theorem dX7_init_49 : decode cX7_init 49 = .ok (.aload_n 0, 1) := by decide +kernel
theorem dX7_init_50 : decode cX7_init 50 = .ok (.bipush 25, 2) := by decide +kernel
theorem dX7_init_52 : decode cX7_init 52 = .ok (.newarray .long, 2) := by decide +kernel
theorem dX7_init_54 : decode cX7_init 54 = .ok (.putfield 30, 3) := by decide +kernel
theorem dX7_init_57 : decode cX7_init 57 = .ok (.aload_n 0, 1) := by decide +kernel
theorem dX7_init_58 : decode cX7_init 58 = .ok (.iconst 5, 1) := by decide +kernel
theorem dX7_init_59 : decode cX7_init 59 = .ok (.newarray .boolean, 2) := by decide +kernel
theorem dX7_init_61 : decode cX7_init 61 = .ok (.putfield 33, 3) := by decide +kernel
theorem dX7_init_64 : decode cX7_init 64 = .ok (.aload_n 0, 1) := by decide +kernel
theorem dX7_init_65 : decode cX7_init 65 = .ok (.iconst 5, 1) := by decide +kernel
theorem dX7_init_66 : decode cX7_init 66 = .ok (.newarray .int, 2) := by decide +kernel
theorem dX7_init_68 : decode cX7_init 68 = .ok (.putfield 37, 3) := by decide +kernel
theorem dX7_init_71 : decode cX7_init 71 = .ok (.aload_n 0, 1) := by decide +kernel
theorem dX7_init_72 : decode cX7_init 72 = .ok (.iconst 5, 1) := by decide +kernel
theorem dX7_init_73 : decode cX7_init 73 = .ok (.newarray .long, 2) := by decide +kernel
theorem dX7_init_75 : decode cX7_init 75 = .ok (.putfield 40, 3) := by decide +kernel
theorem dX7_init_78 : decode cX7_init 78 = .ok (.aload_n 0, 1) := by decide +kernel
theorem dX7_init_79 : decode cX7_init 79 = .ok (.iconst 5, 1) := by decide +kernel
theorem dX7_init_80 : decode cX7_init 80 = .ok (.newarray .long, 2) := by decide +kernel
theorem dX7_init_82 : decode cX7_init 82 = .ok (.putfield 43, 3) := by decide +kernel
theorem dX7_init_85 : decode cX7_init 85 = .ok (.aload_n 0, 1) := by decide +kernel
theorem dX7_init_86 : decode cX7_init 86 = .ok (.bipush 25, 2) := by decide +kernel
theorem dX7_init_88 : decode cX7_init 88 = .ok (.newarray .long, 2) := by decide +kernel
theorem dX7_init_90 : decode cX7_init 90 = .ok (.putfield 46, 3) := by decide +kernel
theorem dX7_init_93 : decode cX7_init 93 = .ok (.aload_n 0, 1) := by decide +kernel
theorem dX7_init_94 : decode cX7_init 94 = .ok (.bipush 25, 2) := by decide +kernel
theorem dX7_init_96 : decode cX7_init 96 = .ok (.newarray .long, 2) := by decide +kernel
theorem dX7_init_98 : decode cX7_init 98 = .ok (.putfield 49, 3) := by decide +kernel
theorem dX7_init_101 : decode cX7_init 101 = .ok (.aload_n 0, 1) := by decide +kernel
theorem dX7_init_102 : decode cX7_init 102 = .ok (.iconst 5, 1) := by decide +kernel
theorem dX7_init_103 : decode cX7_init 103 = .ok (.newarray .int, 2) := by decide +kernel
theorem dX7_init_105 : decode cX7_init 105 = .ok (.putfield 52, 3) := by decide +kernel
theorem dX7_init_108 : decode cX7_init 108 = .ok (.aload_n 0, 1) := by decide +kernel
theorem dX7_init_109 : decode cX7_init 109 = .ok (.iconst 5, 1) := by decide +kernel
theorem dX7_init_110 : decode cX7_init 110 = .ok (.newarray .int, 2) := by decide +kernel
theorem dX7_init_112 : decode cX7_init 112 = .ok (.putfield 55, 3) := by decide +kernel
theorem dX7_init_115 : decode cX7_init 115 = .ok (.aload_n 0, 1) := by decide +kernel
theorem dX7_init_116 : decode cX7_init 116 = .ok (.iconst 5, 1) := by decide +kernel
theorem dX7_init_117 : decode cX7_init 117 = .ok (.newarray .int, 2) := by decide +kernel
theorem dX7_init_119 : decode cX7_init 119 = .ok (.putfield 58, 3) := by decide +kernel
theorem dX7_init_122 : decode cX7_init 122 = .ok (.aload_n 0, 1) := by decide +kernel
theorem dX7_init_123 : decode cX7_init 123 = .ok (.bipush 10, 2) := by decide +kernel
theorem dX7_init_125 : decode cX7_init 125 = .ok (.newarray .long, 2) := by decide +kernel
theorem dX7_init_127 : decode cX7_init 127 = .ok (.putfield 61, 3) := by decide +kernel
theorem dX7_init_130 : decode cX7_init 130 = .ok (.aload_n 0, 1) := by decide +kernel
theorem dX7_init_131 : decode cX7_init 131 = .ok (.bipush 50, 2) := by decide +kernel
theorem dX7_init_133 : decode cX7_init 133 = .ok (.newarray .long, 2) := by decide +kernel
theorem dX7_init_135 : decode cX7_init 135 = .ok (.putfield 64, 3) := by decide +kernel
theorem dX7_init_138 : decode cX7_init 138 = .ok (.aload_n 0, 1) := by decide +kernel
theorem dX7_init_139 : decode cX7_init 139 = .ok (.iconst 5, 1) := by decide +kernel
theorem dX7_init_140 : decode cX7_init 140 = .ok (.newarray .boolean, 2) := by decide +kernel
theorem dX7_init_142 : decode cX7_init 142 = .ok (.putfield 67, 3) := by decide +kernel
theorem dX7_init_145 : decode cX7_init 145 = .ok (.aload_n 0, 1) := by decide +kernel
theorem dX7_init_146 : decode cX7_init 146 = .ok (.iconst 5, 1) := by decide +kernel
theorem dX7_init_147 : decode cX7_init 147 = .ok (.newarray .long, 2) := by decide +kernel
theorem dX7_init_149 : decode cX7_init 149 = .ok (.putfield 70, 3) := by decide +kernel
theorem dX7_init_152 : decode cX7_init 152 = .ok (.aload_n 0, 1) := by decide +kernel
theorem dX7_init_153 : decode cX7_init 153 = .ok (.iconst 5, 1) := by decide +kernel
theorem dX7_init_154 : decode cX7_init 154 = .ok (.newarray .long, 2) := by decide +kernel
theorem dX7_init_156 : decode cX7_init 156 = .ok (.putfield 73, 3) := by decide +kernel
theorem dX7_init_159 : decode cX7_init 159 = .ok (.aload_n 0, 1) := by decide +kernel
theorem dX7_init_160 : decode cX7_init 160 = .ok (.iconst 5, 1) := by decide +kernel
theorem dX7_init_161 : decode cX7_init 161 = .ok (.newarray .long, 2) := by decide +kernel
theorem dX7_init_163 : decode cX7_init 163 = .ok (.putfield 76, 3) := by decide +kernel
theorem dX7_init_166 : decode cX7_init 166 = .ok (.aload_n 0, 1) := by decide +kernel
theorem dX7_init_167 : decode cX7_init 167 = .ok (.iconst 5, 1) := by decide +kernel
theorem dX7_init_168 : decode cX7_init 168 = .ok (.newarray .long, 2) := by decide +kernel
theorem dX7_init_170 : decode cX7_init 170 = .ok (.putfield 79, 3) := by decide +kernel
theorem dX7_init_173 : decode cX7_init 173 = .ok (.aload_n 0, 1) := by decide +kernel
theorem dX7_init_174 : decode cX7_init 174 = .ok (.bipush 25, 2) := by decide +kernel
theorem dX7_init_176 : decode cX7_init 176 = .ok (.newarray .long, 2) := by decide +kernel
theorem dX7_init_178 : decode cX7_init 178 = .ok (.putfield 82, 3) := by decide +kernel
theorem dX7_init_181 : decode cX7_init 181 = .ok (.aload_n 0, 1) := by decide +kernel
theorem dX7_init_182 : decode cX7_init 182 = .ok (.bipush 25, 2) := by decide +kernel
theorem dX7_init_184 : decode cX7_init 184 = .ok (.newarray .long, 2) := by decide +kernel
theorem dX7_init_186 : decode cX7_init 186 = .ok (.putfield 85, 3) := by decide +kernel
theorem dX7_init_189 : decode cX7_init 189 = .ok (.aload_n 0, 1) := by decide +kernel
theorem dX7_init_190 : decode cX7_init 190 = .ok (.bipush 25, 2) := by decide +kernel
theorem dX7_init_192 : decode cX7_init 192 = .ok (.newarray .long, 2) := by decide +kernel
theorem dX7_init_194 : decode cX7_init 194 = .ok (.putfield 88, 3) := by decide +kernel
theorem dX7_init_197 : decode cX7_init 197 = .ok (.aload_n 0, 1) := by decide +kernel
theorem dX7_init_198 : decode cX7_init 198 = .ok (.bipush 25, 2) := by decide +kernel
theorem dX7_init_200 : decode cX7_init 200 = .ok (.newarray .long, 2) := by decide +kernel
theorem dX7_init_202 : decode cX7_init 202 = .ok (.putfield 91, 3) := by decide +kernel
theorem dX7_init_205 : decode cX7_init 205 = .ok (.aload_n 0, 1) := by decide +kernel
theorem dX7_init_206 : decode cX7_init 206 = .ok (.iconst (-1), 1) := by decide +kernel
theorem dX7_init_207 : decode cX7_init 207 = .ok (.putfield 94, 3) := by decide +kernel
theorem dX7_init_210 : decode cX7_init 210 = .ok (.return_, 1) := by decide +kernel
theorem dX7_isIn_0 : decode cX7_isIn 0 = .ok (.lload_n 1, 1) := by decide +kernel
theorem dX7_isIn_1 : decode cX7_isIn 1 = .ok (.lload_n 3, 1) := by decide +kernel
theorem dX7_isIn_2 : decode cX7_isIn 2 = .ok (.lcmp, 1) := by decide +kernel
theorem dX7_isIn_3 : decode cX7_isIn 3 = .ok (.ifCond .lt 14, 3) := by decide +kernel
theorem dX7_isIn_6 : decode cX7_isIn 6 = .ok (.lload_n 1, 1) := by decide +kernel
theorem dX7_isIn_7 : decode cX7_isIn 7 = .ok (.lload 5, 2) := by decide +kernel
theorem dX7_isIn_9 : decode cX7_isIn 9 = .ok (.lcmp, 1) := by decide +kernel
theorem dX7_isIn_10 : decode cX7_isIn 10 = .ok (.ifCond .gt 7, 3) := by decide +kernel
theorem dX7_isIn_13 : decode cX7_isIn 13 = .ok (.iconst 1, 1) := by decide +kernel
theorem dX7_isIn_14 : decode cX7_isIn 14 = .ok (.goto 4, 3) := by decide +kernel
theorem dX7_isIn_17 : decode cX7_isIn 17 = .ok (.iconst 0, 1) := by decide +kernel
theorem dX7_isIn_18 : decode cX7_isIn 18 = .ok (.ireturn, 1) := by decide +kernel
theorem dX7_isForm_0 : decode cX7_isForm 0 = .ok (.aload_n 0, 1) := by decide +kernel
theorem dX7_isForm_1 : decode cX7_isForm 1 = .ok (.iload_n 1, 1) := by decide +kernel
theorem dX7_isForm_2 : decode cX7_isForm 2 = .ok (.i2l, 1) := by decide +kernel
theorem dX7_isForm_3 : decode cX7_isForm 3 = .ok (.lconst 0, 1) := by decide +kernel
theorem dX7_isForm_4 : decode cX7_isForm 4 = .ok (.aload_n 0, 1) := by decide +kernel
theorem dX7_isForm_5 : decode cX7_isForm 5 = .ok (.getfield 97, 3) := by decide +kernel
theorem dX7_isForm_8 : decode cX7_isForm 8 = .ok (.iconst 1, 1) := by decide +kernel
theorem dX7_isForm_9 : decode cX7_isForm 9 = .ok (.isub, 1) := by decide +kernel
theorem dX7_isForm_10 : decode cX7_isForm 10 = .ok (.i2l, 1) := by decide +kernel
theorem dX7_isForm_11 : decode cX7_isForm 11 = .ok (.invokevirtual 100, 3) := by decide +kernel
theorem dX7_isForm_14 : decode cX7_isForm 14 = .ok (.ireturn, 1) := by decide +kernel
theorem dX7_variables_0 : decode cX7_variables 0 = .ok (.aload_n 0, 1) := by decide +kernel
theorem dX7_variables_1 : decode cX7_variables 1 = .ok (.iload_n 1, 1) := by decide +kernel
theorem dX7_variables_2 : decode cX7_variables 2 = .ok (.i2l, 1) := by decide +kernel
theorem dX7_variables_3 : decode cX7_variables 3 = .ok (.lconst 1, 1) := by decide +kernel
theorem dX7_variables_4 : decode cX7_variables 4 = .ok (.ldc2_w 104, 3) := by decide +kernel
theorem dX7_variables_7 : decode cX7_variables 7 = .ok (.invokevirtual 100, 3) := by decide +kernel
theorem dX7_variables_10 : decode cX7_variables 10 = .ok (.ifCond .ne 5, 3) := by decide +kernel
theorem dX7_variables_13 : decode cX7_variables 13 = .ok (.iconst (-1), 1) := by decide +kernel
theorem dX7_variables_14 : decode cX7_variables 14 = .ok (.ireturn, 1) := by decide +kernel
theorem dX7_variables_15 : decode cX7_variables 15 = .ok (.aload_n 0, 1) := by decide +kernel
theorem dX7_variables_16 : decode cX7_variables 16 = .ok (.getfield 97, 3) := by decide +kernel
theorem dX7_variables_19 : decode cX7_variables 19 = .ok (.istore_n 2, 1) := by decide +kernel
theorem dX7_variables_20 : decode cX7_variables 20 = .ok (.aload_n 0, 1) := by decide +kernel
theorem dX7_variables_21 : decode cX7_variables 21 = .ok (.iload_n 1, 1) := by decide +kernel
theorem dX7_variables_22 : decode cX7_variables 22 = .ok (.putfield 7, 3) := by decide +kernel
theorem dX7_variables_25 : decode cX7_variables 25 = .ok (.aload_n 0, 1) := by decide +kernel
theorem dX7_variables_26 : decode cX7_variables 26 = .ok (.iconst 0, 1) := by decide +kernel
theorem dX7_variables_27 : decode cX7_variables 27 = .ok (.putfield 97, 3) := by decide +kernel
theorem dX7_variables_30 : decode cX7_variables 30 = .ok (.aload_n 0, 1) := by decide +kernel
theorem dX7_variables_31 : decode cX7_variables 31 = .ok (.iconst 0, 1) := by decide +kernel
theorem dX7_variables_32 : decode cX7_variables 32 = .ok (.putfield 106, 3) := by decide +kernel
theorem dX7_variables_35 : decode cX7_variables 35 = .ok (.aload_n 0, 1) := by decide +kernel
theorem dX7_variables_36 : decode cX7_variables 36 = .ok (.iconst (-1), 1) := by decide +kernel
theorem dX7_variables_37 : decode cX7_variables 37 = .ok (.putfield 94, 3) := by decide +kernel
theorem dX7_variables_40 : decode cX7_variables 40 = .ok (.aload_n 0, 1) := by decide +kernel
theorem dX7_variables_41 : decode cX7_variables 41 = .ok (.iconst 0, 1) := by decide +kernel
theorem dX7_variables_42 : decode cX7_variables 42 = .ok (.putfield 109, 3) := by decide +kernel
theorem dX7_variables_45 : decode cX7_variables 45 = .ok (.aload_n 0, 1) := by decide +kernel
theorem dX7_variables_46 : decode cX7_variables 46 = .ok (.iconst 0, 1) := by decide +kernel
theorem dX7_variables_47 : decode cX7_variables 47 = .ok (.putfield 112, 3) := by decide +kernel
theorem dX7_variables_50 : decode cX7_variables 50 = .ok (.iload_n 2, 1) := by decide +kernel
theorem dX7_variables_51 : decode cX7_variables 51 = .ok (.ireturn, 1) := by decide +kernel
theorem dX7_form_0 : decode cX7_form 0 = .ok (.aload_n 0, 1) := by decide +kernel
theorem dX7_form_1 : decode cX7_form 1 = .ok (.getfield 97, 3) := by decide +kernel
theorem dX7_form_4 : decode cX7_form 4 = .ok (.bipush 12, 2) := by decide +kernel
theorem dX7_form_6 : decode cX7_form 6 = .ok (.if_icmp .ne 6, 3) := by decide +kernel
theorem dX7_form_9 : decode cX7_form 9 = .ok (.bipush (-3), 2) := by decide +kernel
theorem dX7_form_11 : decode cX7_form 11 = .ok (.ireturn, 1) := by decide +kernel
theorem dX7_form_12 : decode cX7_form 12 = .ok (.iconst 0, 1) := by decide +kernel
theorem dX7_form_13 : decode cX7_form 13 = .ok (.istore_n 1, 1) := by decide +kernel
theorem dX7_form_14 : decode cX7_form 14 = .ok (.iload_n 1, 1) := by decide +kernel
theorem dX7_form_15 : decode cX7_form 15 = .ok (.bipush 25, 2) := by decide +kernel
theorem dX7_form_17 : decode cX7_form 17 = .ok (.if_icmp .ge 24, 3) := by decide +kernel
theorem dX7_form_20 : decode cX7_form 20 = .ok (.aload_n 0, 1) := by decide +kernel
theorem dX7_form_21 : decode cX7_form 21 = .ok (.getfield 13, 3) := by decide +kernel
theorem dX7_form_24 : decode cX7_form 24 = .ok (.bipush 25, 2) := by decide +kernel
theorem dX7_form_26 : decode cX7_form 26 = .ok (.aload_n 0, 1) := by decide +kernel
theorem dX7_form_27 : decode cX7_form 27 = .ok (.getfield 97, 3) := by decide +kernel
theorem dX7_form_30 : decode cX7_form 30 = .ok (.imul, 1) := by decide +kernel
theorem dX7_form_31 : decode cX7_form 31 = .ok (.iload_n 1, 1) := by decide +kernel
theorem dX7_form_32 : decode cX7_form 32 = .ok (.iadd, 1) := by decide +kernel
theorem dX7_form_33 : decode cX7_form 33 = .ok (.iconst 0, 1) := by decide +kernel
theorem dX7_form_34 : decode cX7_form 34 = .ok (.iastore, 1) := by decide +kernel
theorem dX7_form_35 : decode cX7_form 35 = .ok (.iinc 1 1, 3) := by decide +kernel
theorem dX7_form_38 : decode cX7_form 38 = .ok (.goto (-24), 3) := by decide +kernel
theorem dX7_form_41 : decode cX7_form 41 = .ok (.aload_n 0, 1) := by decide +kernel
theorem dX7_form_42 : decode cX7_form 42 = .ok (.dup, 1) := by decide +kernel
theorem dX7_form_43 : decode cX7_form 43 = .ok (.getfield 97, 3) := by decide +kernel
theorem dX7_form_46 : decode cX7_form 46 = .ok (.iconst 1, 1) := by decide +kernel
theorem dX7_form_47 : decode cX7_form 47 = .ok (.iadd, 1) := by decide +kernel
theorem dX7_form_48 : decode cX7_form 48 = .ok (.putfield 97, 3) := by decide +kernel
theorem dX7_form_51 : decode cX7_form 51 = .ok (.aload_n 0, 1) := by decide +kernel
theorem dX7_form_52 : decode cX7_form 52 = .ok (.getfield 97, 3) := by decide +kernel
theorem dX7_form_55 : decode cX7_form 55 = .ok (.iconst 1, 1) := by decide +kernel
theorem dX7_form_56 : decode cX7_form 56 = .ok (.isub, 1) := by decide +kernel
theorem dX7_form_57 : decode cX7_form 57 = .ok (.ireturn, 1) := by decide +kernel
theorem dX7_at_0 : decode cX7_at 0 = .ok (.iload_n 1, 1) := by decide +kernel
theorem dX7_at_1 : decode cX7_at 1 = .ok (.iload_n 2, 1) := by decide +kernel
theorem dX7_at_2 : decode cX7_at 2 = .ok (.if_icmp .ge 11, 3) := by decide +kernel
theorem dX7_at_5 : decode cX7_at 5 = .ok (.iconst 5, 1) := by decide +kernel
theorem dX7_at_6 : decode cX7_at 6 = .ok (.iload_n 1, 1) := by decide +kernel
theorem dX7_at_7 : decode cX7_at 7 = .ok (.imul, 1) := by decide +kernel
theorem dX7_at_8 : decode cX7_at 8 = .ok (.iload_n 2, 1) := by decide +kernel
theorem dX7_at_9 : decode cX7_at 9 = .ok (.iadd, 1) := by decide +kernel
theorem dX7_at_10 : decode cX7_at 10 = .ok (.goto 8, 3) := by decide +kernel
theorem dX7_at_13 : decode cX7_at 13 = .ok (.iconst 5, 1) := by decide +kernel
theorem dX7_at_14 : decode cX7_at 14 = .ok (.iload_n 2, 1) := by decide +kernel
theorem dX7_at_15 : decode cX7_at 15 = .ok (.imul, 1) := by decide +kernel
theorem dX7_at_16 : decode cX7_at 16 = .ok (.iload_n 1, 1) := by decide +kernel
theorem dX7_at_17 : decode cX7_at 17 = .ok (.iadd, 1) := by decide +kernel
theorem dX7_at_18 : decode cX7_at 18 = .ok (.ireturn, 1) := by decide +kernel
theorem dX7_term_0 : decode cX7_term 0 = .ok (.aload_n 0, 1) := by decide +kernel
theorem dX7_term_1 : decode cX7_term 1 = .ok (.iload_n 1, 1) := by decide +kernel
theorem dX7_term_2 : decode cX7_term 2 = .ok (.invokevirtual 116, 3) := by decide +kernel
theorem dX7_term_5 : decode cX7_term 5 = .ok (.ifCond .eq 49, 3) := by decide +kernel
theorem dX7_term_8 : decode cX7_term 8 = .ok (.aload_n 0, 1) := by decide +kernel
theorem dX7_term_9 : decode cX7_term 9 = .ok (.iload_n 2, 1) := by decide +kernel
theorem dX7_term_10 : decode cX7_term 10 = .ok (.i2l, 1) := by decide +kernel
theorem dX7_term_11 : decode cX7_term 11 = .ok (.lconst 0, 1) := by decide +kernel
theorem dX7_term_12 : decode cX7_term 12 = .ok (.aload_n 0, 1) := by decide +kernel
theorem dX7_term_13 : decode cX7_term 13 = .ok (.getfield 7, 3) := by decide +kernel
theorem dX7_term_16 : decode cX7_term 16 = .ok (.i2l, 1) := by decide +kernel
theorem dX7_term_17 : decode cX7_term 17 = .ok (.invokevirtual 100, 3) := by decide +kernel
theorem dX7_term_20 : decode cX7_term 20 = .ok (.ifCond .eq 34, 3) := by decide +kernel
theorem dX7_term_23 : decode cX7_term 23 = .ok (.aload_n 0, 1) := by decide +kernel
theorem dX7_term_24 : decode cX7_term 24 = .ok (.iload_n 3, 1) := by decide +kernel
theorem dX7_term_25 : decode cX7_term 25 = .ok (.i2l, 1) := by decide +kernel
theorem dX7_term_26 : decode cX7_term 26 = .ok (.lconst 0, 1) := by decide +kernel
theorem dX7_term_27 : decode cX7_term 27 = .ok (.aload_n 0, 1) := by decide +kernel
theorem dX7_term_28 : decode cX7_term 28 = .ok (.getfield 7, 3) := by decide +kernel
theorem dX7_term_31 : decode cX7_term 31 = .ok (.i2l, 1) := by decide +kernel
theorem dX7_term_32 : decode cX7_term 32 = .ok (.invokevirtual 100, 3) := by decide +kernel
theorem dX7_term_35 : decode cX7_term 35 = .ok (.ifCond .eq 19, 3) := by decide +kernel
theorem dX7_term_38 : decode cX7_term 38 = .ok (.aload_n 0, 1) := by decide +kernel
theorem dX7_term_39 : decode cX7_term 39 = .ok (.iload 4, 2) := by decide +kernel
theorem dX7_term_41 : decode cX7_term 41 = .ok (.i2l, 1) := by decide +kernel
theorem dX7_term_42 : decode cX7_term 42 = .ok (.ldc2_w 120, 3) := by decide +kernel
theorem dX7_term_45 : decode cX7_term 45 = .ok (.ldc2_w 122, 3) := by decide +kernel
theorem dX7_term_48 : decode cX7_term 48 = .ok (.invokevirtual 100, 3) := by decide +kernel
theorem dX7_term_51 : decode cX7_term 51 = .ok (.ifCond .ne 6, 3) := by decide +kernel
theorem dX7_term_54 : decode cX7_term 54 = .ok (.ldc 124, 2) := by decide +kernel
theorem dX7_term_56 : decode cX7_term 56 = .ok (.ireturn, 1) := by decide +kernel
theorem dX7_term_57 : decode cX7_term 57 = .ok (.bipush 25, 2) := by decide +kernel
theorem dX7_term_59 : decode cX7_term 59 = .ok (.iload_n 1, 1) := by decide +kernel
theorem dX7_term_60 : decode cX7_term 60 = .ok (.imul, 1) := by decide +kernel
theorem dX7_term_61 : decode cX7_term 61 = .ok (.aload_n 0, 1) := by decide +kernel
theorem dX7_term_62 : decode cX7_term 62 = .ok (.iload_n 2, 1) := by decide +kernel
theorem dX7_term_63 : decode cX7_term 63 = .ok (.iload_n 3, 1) := by decide +kernel
theorem dX7_term_64 : decode cX7_term 64 = .ok (.invokevirtual 125, 3) := by decide +kernel
theorem dX7_term_67 : decode cX7_term 67 = .ok (.iadd, 1) := by decide +kernel
theorem dX7_term_68 : decode cX7_term 68 = .ok (.istore 5, 2) := by decide +kernel
theorem dX7_term_70 : decode cX7_term 70 = .ok (.aload_n 0, 1) := by decide +kernel
theorem dX7_term_71 : decode cX7_term 71 = .ok (.getfield 13, 3) := by decide +kernel
theorem dX7_term_74 : decode cX7_term 74 = .ok (.iload 5, 2) := by decide +kernel
theorem dX7_term_76 : decode cX7_term 76 = .ok (.iaload, 1) := by decide +kernel
theorem dX7_term_77 : decode cX7_term 77 = .ok (.istore 6, 2) := by decide +kernel
theorem dX7_term_79 : decode cX7_term 79 = .ok (.aload_n 0, 1) := by decide +kernel
theorem dX7_term_80 : decode cX7_term 80 = .ok (.getfield 13, 3) := by decide +kernel
theorem dX7_term_83 : decode cX7_term 83 = .ok (.iload 5, 2) := by decide +kernel
theorem dX7_term_85 : decode cX7_term 85 = .ok (.iload 4, 2) := by decide +kernel
theorem dX7_term_87 : decode cX7_term 87 = .ok (.iastore, 1) := by decide +kernel
theorem dX7_term_88 : decode cX7_term 88 = .ok (.iload 6, 2) := by decide +kernel
theorem dX7_term_90 : decode cX7_term 90 = .ok (.ireturn, 1) := by decide +kernel
theorem dX7_worth_0 : decode cX7_worth 0 = .ok (.lconst 0, 1) := by decide +kernel
theorem dX7_worth_1 : decode cX7_worth 1 = .ok (.lstore_n 2, 1) := by decide +kernel
theorem dX7_worth_2 : decode cX7_worth 2 = .ok (.iconst 0, 1) := by decide +kernel
theorem dX7_worth_3 : decode cX7_worth 3 = .ok (.istore 4, 2) := by decide +kernel
theorem dX7_worth_5 : decode cX7_worth 5 = .ok (.iload 4, 2) := by decide +kernel
theorem dX7_worth_7 : decode cX7_worth 7 = .ok (.aload_n 0, 1) := by decide +kernel
theorem dX7_worth_8 : decode cX7_worth 8 = .ok (.getfield 7, 3) := by decide +kernel
theorem dX7_worth_11 : decode cX7_worth 11 = .ok (.if_icmp .gt 68, 3) := by decide +kernel
theorem dX7_worth_14 : decode cX7_worth 14 = .ok (.iload 4, 2) := by decide +kernel
theorem dX7_worth_16 : decode cX7_worth 16 = .ok (.istore 5, 2) := by decide +kernel
theorem dX7_worth_18 : decode cX7_worth 18 = .ok (.iload 5, 2) := by decide +kernel
theorem dX7_worth_20 : decode cX7_worth 20 = .ok (.aload_n 0, 1) := by decide +kernel
theorem dX7_worth_21 : decode cX7_worth 21 = .ok (.getfield 7, 3) := by decide +kernel
theorem dX7_worth_24 : decode cX7_worth 24 = .ok (.if_icmp .gt 49, 3) := by decide +kernel
theorem dX7_worth_27 : decode cX7_worth 27 = .ok (.lload_n 2, 1) := by decide +kernel
theorem dX7_worth_28 : decode cX7_worth 28 = .ok (.aload_n 0, 1) := by decide +kernel
theorem dX7_worth_29 : decode cX7_worth 29 = .ok (.getfield 13, 3) := by decide +kernel
theorem dX7_worth_32 : decode cX7_worth 32 = .ok (.bipush 25, 2) := by decide +kernel
theorem dX7_worth_34 : decode cX7_worth 34 = .ok (.iload_n 1, 1) := by decide +kernel
theorem dX7_worth_35 : decode cX7_worth 35 = .ok (.imul, 1) := by decide +kernel
theorem dX7_worth_36 : decode cX7_worth 36 = .ok (.aload_n 0, 1) := by decide +kernel
theorem dX7_worth_37 : decode cX7_worth 37 = .ok (.iload 4, 2) := by decide +kernel
theorem dX7_worth_39 : decode cX7_worth 39 = .ok (.iload 5, 2) := by decide +kernel
theorem dX7_worth_41 : decode cX7_worth 41 = .ok (.invokevirtual 125, 3) := by decide +kernel
theorem dX7_worth_44 : decode cX7_worth 44 = .ok (.iadd, 1) := by decide +kernel
theorem dX7_worth_45 : decode cX7_worth 45 = .ok (.iaload, 1) := by decide +kernel
theorem dX7_worth_46 : decode cX7_worth 46 = .ok (.i2l, 1) := by decide +kernel
theorem dX7_worth_47 : decode cX7_worth 47 = .ok (.aload_n 0, 1) := by decide +kernel
theorem dX7_worth_48 : decode cX7_worth 48 = .ok (.getfield 17, 3) := by decide +kernel
theorem dX7_worth_51 : decode cX7_worth 51 = .ok (.iload 4, 2) := by decide +kernel
theorem dX7_worth_53 : decode cX7_worth 53 = .ok (.iaload, 1) := by decide +kernel
theorem dX7_worth_54 : decode cX7_worth 54 = .ok (.i2l, 1) := by decide +kernel
theorem dX7_worth_55 : decode cX7_worth 55 = .ok (.lmul, 1) := by decide +kernel
theorem dX7_worth_56 : decode cX7_worth 56 = .ok (.aload_n 0, 1) := by decide +kernel
theorem dX7_worth_57 : decode cX7_worth 57 = .ok (.getfield 17, 3) := by decide +kernel
theorem dX7_worth_60 : decode cX7_worth 60 = .ok (.iload 5, 2) := by decide +kernel
theorem dX7_worth_62 : decode cX7_worth 62 = .ok (.iaload, 1) := by decide +kernel
theorem dX7_worth_63 : decode cX7_worth 63 = .ok (.i2l, 1) := by decide +kernel
theorem dX7_worth_64 : decode cX7_worth 64 = .ok (.lmul, 1) := by decide +kernel
theorem dX7_worth_65 : decode cX7_worth 65 = .ok (.ladd, 1) := by decide +kernel
theorem dX7_worth_66 : decode cX7_worth 66 = .ok (.lstore_n 2, 1) := by decide +kernel
theorem dX7_worth_67 : decode cX7_worth 67 = .ok (.iinc 5 1, 3) := by decide +kernel
theorem dX7_worth_70 : decode cX7_worth 70 = .ok (.goto (-52), 3) := by decide +kernel
theorem dX7_worth_73 : decode cX7_worth 73 = .ok (.iinc 4 1, 3) := by decide +kernel
theorem dX7_worth_76 : decode cX7_worth 76 = .ok (.goto (-71), 3) := by decide +kernel
theorem dX7_worth_79 : decode cX7_worth 79 = .ok (.lload_n 2, 1) := by decide +kernel
theorem dX7_worth_80 : decode cX7_worth 80 = .ok (.lreturn, 1) := by decide +kernel
theorem dX7_value_0 : decode cX7_value 0 = .ok (.aload_n 0, 1) := by decide +kernel
theorem dX7_value_1 : decode cX7_value 1 = .ok (.getfield 17, 3) := by decide +kernel
theorem dX7_value_4 : decode cX7_value 4 = .ok (.iconst 0, 1) := by decide +kernel
theorem dX7_value_5 : decode cX7_value 5 = .ok (.iconst 1, 1) := by decide +kernel
theorem dX7_value_6 : decode cX7_value 6 = .ok (.iastore, 1) := by decide +kernel
theorem dX7_value_7 : decode cX7_value 7 = .ok (.aload_n 0, 1) := by decide +kernel
theorem dX7_value_8 : decode cX7_value 8 = .ok (.getfield 17, 3) := by decide +kernel
theorem dX7_value_11 : decode cX7_value 11 = .ok (.iconst 1, 1) := by decide +kernel
theorem dX7_value_12 : decode cX7_value 12 = .ok (.iload_n 2, 1) := by decide +kernel
theorem dX7_value_13 : decode cX7_value 13 = .ok (.iastore, 1) := by decide +kernel
theorem dX7_value_14 : decode cX7_value 14 = .ok (.aload_n 0, 1) := by decide +kernel
theorem dX7_value_15 : decode cX7_value 15 = .ok (.getfield 17, 3) := by decide +kernel
theorem dX7_value_18 : decode cX7_value 18 = .ok (.iconst 2, 1) := by decide +kernel
theorem dX7_value_19 : decode cX7_value 19 = .ok (.iload_n 3, 1) := by decide +kernel
theorem dX7_value_20 : decode cX7_value 20 = .ok (.iastore, 1) := by decide +kernel
theorem dX7_value_21 : decode cX7_value 21 = .ok (.aload_n 0, 1) := by decide +kernel
theorem dX7_value_22 : decode cX7_value 22 = .ok (.getfield 17, 3) := by decide +kernel
theorem dX7_value_25 : decode cX7_value 25 = .ok (.iconst 3, 1) := by decide +kernel
theorem dX7_value_26 : decode cX7_value 26 = .ok (.iload 4, 2) := by decide +kernel
theorem dX7_value_28 : decode cX7_value 28 = .ok (.iastore, 1) := by decide +kernel
theorem dX7_value_29 : decode cX7_value 29 = .ok (.aload_n 0, 1) := by decide +kernel
theorem dX7_value_30 : decode cX7_value 30 = .ok (.getfield 17, 3) := by decide +kernel
theorem dX7_value_33 : decode cX7_value 33 = .ok (.iconst 4, 1) := by decide +kernel
theorem dX7_value_34 : decode cX7_value 34 = .ok (.iload 5, 2) := by decide +kernel
theorem dX7_value_36 : decode cX7_value 36 = .ok (.iastore, 1) := by decide +kernel
theorem dX7_value_37 : decode cX7_value 37 = .ok (.aload_n 0, 1) := by decide +kernel
theorem dX7_value_38 : decode cX7_value 38 = .ok (.iload_n 1, 1) := by decide +kernel
theorem dX7_value_39 : decode cX7_value 39 = .ok (.invokevirtual 116, 3) := by decide +kernel
theorem dX7_value_42 : decode cX7_value 42 = .ok (.istore 6, 2) := by decide +kernel
theorem dX7_value_44 : decode cX7_value 44 = .ok (.iconst 1, 1) := by decide +kernel
theorem dX7_value_45 : decode cX7_value 45 = .ok (.istore 7, 2) := by decide +kernel
theorem dX7_value_47 : decode cX7_value 47 = .ok (.iload 7, 2) := by decide +kernel
theorem dX7_value_49 : decode cX7_value 49 = .ok (.aload_n 0, 1) := by decide +kernel
theorem dX7_value_50 : decode cX7_value 50 = .ok (.getfield 7, 3) := by decide +kernel
theorem dX7_value_53 : decode cX7_value 53 = .ok (.if_icmp .gt 32, 3) := by decide +kernel
theorem dX7_value_56 : decode cX7_value 56 = .ok (.iload 6, 2) := by decide +kernel
theorem dX7_value_58 : decode cX7_value 58 = .ok (.aload_n 0, 1) := by decide +kernel
theorem dX7_value_59 : decode cX7_value 59 = .ok (.aload_n 0, 1) := by decide +kernel
theorem dX7_value_60 : decode cX7_value 60 = .ok (.getfield 17, 3) := by decide +kernel
theorem dX7_value_63 : decode cX7_value 63 = .ok (.iload 7, 2) := by decide +kernel
theorem dX7_value_65 : decode cX7_value 65 = .ok (.iaload, 1) := by decide +kernel
theorem dX7_value_66 : decode cX7_value 66 = .ok (.i2l, 1) := by decide +kernel
theorem dX7_value_67 : decode cX7_value 67 = .ok (.ldc2_w 129, 3) := by decide +kernel
theorem dX7_value_70 : decode cX7_value 70 = .ok (.ldc2_w 131, 3) := by decide +kernel
theorem dX7_value_73 : decode cX7_value 73 = .ok (.invokevirtual 100, 3) := by decide +kernel
theorem dX7_value_76 : decode cX7_value 76 = .ok (.iand, 1) := by decide +kernel
theorem dX7_value_77 : decode cX7_value 77 = .ok (.istore 6, 2) := by decide +kernel
theorem dX7_value_79 : decode cX7_value 79 = .ok (.iinc 7 1, 3) := by decide +kernel
theorem dX7_value_82 : decode cX7_value 82 = .ok (.goto (-35), 3) := by decide +kernel
theorem dX7_value_85 : decode cX7_value 85 = .ok (.iload 6, 2) := by decide +kernel
theorem dX7_value_87 : decode cX7_value 87 = .ok (.ifCond .eq 11, 3) := by decide +kernel
theorem dX7_value_90 : decode cX7_value 90 = .ok (.aload_n 0, 1) := by decide +kernel
theorem dX7_value_91 : decode cX7_value 91 = .ok (.iload_n 1, 1) := by decide +kernel
theorem dX7_value_92 : decode cX7_value 92 = .ok (.invokevirtual 133, 3) := by decide +kernel
theorem dX7_value_95 : decode cX7_value 95 = .ok (.goto 6, 3) := by decide +kernel
theorem dX7_value_98 : decode cX7_value 98 = .ok (.ldc2_w 137, 3) := by decide +kernel
theorem dX7_value_101 : decode cX7_value 101 = .ok (.lreturn, 1) := by decide +kernel
theorem dX7_begin_0 : decode cX7_begin 0 = .ok (.aload_n 0, 1) := by decide +kernel
theorem dX7_begin_1 : decode cX7_begin 1 = .ok (.iconst 0, 1) := by decide +kernel
theorem dX7_begin_2 : decode cX7_begin 2 = .ok (.putfield 139, 3) := by decide +kernel
theorem dX7_begin_5 : decode cX7_begin 5 = .ok (.aload_n 0, 1) := by decide +kernel
theorem dX7_begin_6 : decode cX7_begin 6 = .ok (.iconst 0, 1) := by decide +kernel
theorem dX7_begin_7 : decode cX7_begin 7 = .ok (.putfield 142, 3) := by decide +kernel
theorem dX7_begin_10 : decode cX7_begin 10 = .ok (.return_, 1) := by decide +kernel
theorem dX7_isWrong_0 : decode cX7_isWrong 0 = .ok (.aload_n 0, 1) := by decide +kernel
theorem dX7_isWrong_1 : decode cX7_isWrong 1 = .ok (.getfield 139, 3) := by decide +kernel
theorem dX7_isWrong_4 : decode cX7_isWrong 4 = .ok (.ifCond .ne 10, 3) := by decide +kernel
theorem dX7_isWrong_7 : decode cX7_isWrong 7 = .ok (.aload_n 0, 1) := by decide +kernel
theorem dX7_isWrong_8 : decode cX7_isWrong 8 = .ok (.getfield 142, 3) := by decide +kernel
theorem dX7_isWrong_11 : decode cX7_isWrong 11 = .ok (.ifCond .eq 7, 3) := by decide +kernel
theorem dX7_isWrong_14 : decode cX7_isWrong 14 = .ok (.iconst 1, 1) := by decide +kernel
theorem dX7_isWrong_15 : decode cX7_isWrong 15 = .ok (.goto 4, 3) := by decide +kernel
theorem dX7_isWrong_18 : decode cX7_isWrong 18 = .ok (.iconst 0, 1) := by decide +kernel
theorem dX7_isWrong_19 : decode cX7_isWrong 19 = .ok (.ireturn, 1) := by decide +kernel
theorem dX7_times_0 : decode cX7_times 0 = .ok (.lload_n 1, 1) := by decide +kernel
theorem dX7_times_1 : decode cX7_times 1 = .ok (.lconst 0, 1) := by decide +kernel
theorem dX7_times_2 : decode cX7_times 2 = .ok (.lcmp, 1) := by decide +kernel
theorem dX7_times_3 : decode cX7_times 3 = .ok (.ifCond .eq 9, 3) := by decide +kernel
theorem dX7_times_6 : decode cX7_times 6 = .ok (.lload_n 3, 1) := by decide +kernel
theorem dX7_times_7 : decode cX7_times 7 = .ok (.lconst 0, 1) := by decide +kernel
theorem dX7_times_8 : decode cX7_times 8 = .ok (.lcmp, 1) := by decide +kernel
theorem dX7_times_9 : decode cX7_times 9 = .ok (.ifCond .ne 5, 3) := by decide +kernel
theorem dX7_times_12 : decode cX7_times 12 = .ok (.lconst 0, 1) := by decide +kernel
theorem dX7_times_13 : decode cX7_times 13 = .ok (.lreturn, 1) := by decide +kernel
theorem dX7_times_14 : decode cX7_times 14 = .ok (.lload_n 1, 1) := by decide +kernel
theorem dX7_times_15 : decode cX7_times 15 = .ok (.lload_n 3, 1) := by decide +kernel
theorem dX7_times_16 : decode cX7_times 16 = .ok (.lmul, 1) := by decide +kernel
theorem dX7_times_17 : decode cX7_times 17 = .ok (.lstore 5, 2) := by decide +kernel
theorem dX7_times_19 : decode cX7_times 19 = .ok (.lload_n 1, 1) := by decide +kernel
theorem dX7_times_20 : decode cX7_times 20 = .ok (.ldc2_w 137, 3) := by decide +kernel
theorem dX7_times_23 : decode cX7_times 23 = .ok (.lcmp, 1) := by decide +kernel
theorem dX7_times_24 : decode cX7_times 24 = .ok (.ifCond .ne 11, 3) := by decide +kernel
theorem dX7_times_27 : decode cX7_times 27 = .ok (.lload_n 3, 1) := by decide +kernel
theorem dX7_times_28 : decode cX7_times 28 = .ok (.ldc2_w 145, 3) := by decide +kernel
theorem dX7_times_31 : decode cX7_times 31 = .ok (.lcmp, 1) := by decide +kernel
theorem dX7_times_32 : decode cX7_times 32 = .ok (.ifCond .eq 19, 3) := by decide +kernel
theorem dX7_times_35 : decode cX7_times 35 = .ok (.lload_n 3, 1) := by decide +kernel
theorem dX7_times_36 : decode cX7_times 36 = .ok (.ldc2_w 137, 3) := by decide +kernel
theorem dX7_times_39 : decode cX7_times 39 = .ok (.lcmp, 1) := by decide +kernel
theorem dX7_times_40 : decode cX7_times 40 = .ok (.ifCond .ne 15, 3) := by decide +kernel
theorem dX7_times_43 : decode cX7_times 43 = .ok (.lload_n 1, 1) := by decide +kernel
theorem dX7_times_44 : decode cX7_times 44 = .ok (.ldc2_w 145, 3) := by decide +kernel
theorem dX7_times_47 : decode cX7_times 47 = .ok (.lcmp, 1) := by decide +kernel
theorem dX7_times_48 : decode cX7_times 48 = .ok (.ifCond .ne 7, 3) := by decide +kernel
theorem dX7_times_51 : decode cX7_times 51 = .ok (.iconst 1, 1) := by decide +kernel
theorem dX7_times_52 : decode cX7_times 52 = .ok (.goto 4, 3) := by decide +kernel
theorem dX7_times_55 : decode cX7_times 55 = .ok (.iconst 0, 1) := by decide +kernel
theorem dX7_times_56 : decode cX7_times 56 = .ok (.istore 7, 2) := by decide +kernel
theorem dX7_times_58 : decode cX7_times 58 = .ok (.iload 7, 2) := by decide +kernel
theorem dX7_times_60 : decode cX7_times 60 = .ok (.ifCond .ne 21, 3) := by decide +kernel
theorem dX7_times_63 : decode cX7_times 63 = .ok (.lload 5, 2) := by decide +kernel
theorem dX7_times_65 : decode cX7_times 65 = .ok (.ldc2_w 145, 3) := by decide +kernel
theorem dX7_times_68 : decode cX7_times 68 = .ok (.lcmp, 1) := by decide +kernel
theorem dX7_times_69 : decode cX7_times 69 = .ok (.ifCond .eq 12, 3) := by decide +kernel
theorem dX7_times_72 : decode cX7_times 72 = .ok (.lload 5, 2) := by decide +kernel
theorem dX7_times_74 : decode cX7_times 74 = .ok (.lload_n 3, 1) := by decide +kernel
theorem dX7_times_75 : decode cX7_times 75 = .ok (.ldiv, 1) := by decide +kernel
theorem dX7_times_76 : decode cX7_times 76 = .ok (.lload_n 1, 1) := by decide +kernel
theorem dX7_times_77 : decode cX7_times 77 = .ok (.lcmp, 1) := by decide +kernel
theorem dX7_times_78 : decode cX7_times 78 = .ok (.ifCond .eq 26, 3) := by decide +kernel
theorem dX7_times_81 : decode cX7_times 81 = .ok (.aload_n 0, 1) := by decide +kernel
theorem dX7_times_82 : decode cX7_times 82 = .ok (.dup, 1) := by decide +kernel
theorem dX7_times_83 : decode cX7_times 83 = .ok (.getfield 139, 3) := by decide +kernel
theorem dX7_times_86 : decode cX7_times 86 = .ok (.aload_n 0, 1) := by decide +kernel
theorem dX7_times_87 : decode cX7_times 87 = .ok (.getfield 142, 3) := by decide +kernel
theorem dX7_times_90 : decode cX7_times 90 = .ok (.ifCond .ne 7, 3) := by decide +kernel
theorem dX7_times_93 : decode cX7_times 93 = .ok (.iconst 1, 1) := by decide +kernel
theorem dX7_times_94 : decode cX7_times 94 = .ok (.goto 4, 3) := by decide +kernel
theorem dX7_times_97 : decode cX7_times 97 = .ok (.iconst 0, 1) := by decide +kernel
theorem dX7_times_98 : decode cX7_times 98 = .ok (.ior, 1) := by decide +kernel
theorem dX7_times_99 : decode cX7_times 99 = .ok (.putfield 139, 3) := by decide +kernel
theorem dX7_times_102 : decode cX7_times 102 = .ok (.lconst 1, 1) := by decide +kernel
theorem dX7_times_103 : decode cX7_times 103 = .ok (.lreturn, 1) := by decide +kernel
theorem dX7_times_104 : decode cX7_times 104 = .ok (.lload 5, 2) := by decide +kernel
theorem dX7_times_106 : decode cX7_times 106 = .ok (.lreturn, 1) := by decide +kernel
theorem dX7_add_0 : decode cX7_add 0 = .ok (.lload_n 1, 1) := by decide +kernel
theorem dX7_add_1 : decode cX7_add 1 = .ok (.lload_n 3, 1) := by decide +kernel
theorem dX7_add_2 : decode cX7_add 2 = .ok (.ladd, 1) := by decide +kernel
theorem dX7_add_3 : decode cX7_add 3 = .ok (.lstore 5, 2) := by decide +kernel
theorem dX7_add_5 : decode cX7_add 5 = .ok (.lload_n 1, 1) := by decide +kernel
theorem dX7_add_6 : decode cX7_add 6 = .ok (.lload 5, 2) := by decide +kernel
theorem dX7_add_8 : decode cX7_add 8 = .ok (.lxor, 1) := by decide +kernel
theorem dX7_add_9 : decode cX7_add 9 = .ok (.lload_n 3, 1) := by decide +kernel
theorem dX7_add_10 : decode cX7_add 10 = .ok (.lload 5, 2) := by decide +kernel
theorem dX7_add_12 : decode cX7_add 12 = .ok (.lxor, 1) := by decide +kernel
theorem dX7_add_13 : decode cX7_add 13 = .ok (.land, 1) := by decide +kernel
theorem dX7_add_14 : decode cX7_add 14 = .ok (.lconst 0, 1) := by decide +kernel
theorem dX7_add_15 : decode cX7_add 15 = .ok (.lcmp, 1) := by decide +kernel
theorem dX7_add_16 : decode cX7_add 16 = .ok (.ifCond .lt 12, 3) := by decide +kernel
theorem dX7_add_19 : decode cX7_add 19 = .ok (.lload 5, 2) := by decide +kernel
theorem dX7_add_21 : decode cX7_add 21 = .ok (.ldc2_w 145, 3) := by decide +kernel
theorem dX7_add_24 : decode cX7_add 24 = .ok (.lcmp, 1) := by decide +kernel
theorem dX7_add_25 : decode cX7_add 25 = .ok (.ifCond .ne 26, 3) := by decide +kernel
theorem dX7_add_28 : decode cX7_add 28 = .ok (.aload_n 0, 1) := by decide +kernel
theorem dX7_add_29 : decode cX7_add 29 = .ok (.dup, 1) := by decide +kernel
theorem dX7_add_30 : decode cX7_add 30 = .ok (.getfield 139, 3) := by decide +kernel
theorem dX7_add_33 : decode cX7_add 33 = .ok (.aload_n 0, 1) := by decide +kernel
theorem dX7_add_34 : decode cX7_add 34 = .ok (.getfield 142, 3) := by decide +kernel
theorem dX7_add_37 : decode cX7_add 37 = .ok (.ifCond .ne 7, 3) := by decide +kernel
theorem dX7_add_40 : decode cX7_add 40 = .ok (.iconst 1, 1) := by decide +kernel
theorem dX7_add_41 : decode cX7_add 41 = .ok (.goto 4, 3) := by decide +kernel
theorem dX7_add_44 : decode cX7_add 44 = .ok (.iconst 0, 1) := by decide +kernel
theorem dX7_add_45 : decode cX7_add 45 = .ok (.ior, 1) := by decide +kernel
theorem dX7_add_46 : decode cX7_add 46 = .ok (.putfield 139, 3) := by decide +kernel
theorem dX7_add_49 : decode cX7_add 49 = .ok (.lconst 1, 1) := by decide +kernel
theorem dX7_add_50 : decode cX7_add 50 = .ok (.lreturn, 1) := by decide +kernel
theorem dX7_add_51 : decode cX7_add 51 = .ok (.lload 5, 2) := by decide +kernel
theorem dX7_add_53 : decode cX7_add 53 = .ok (.lreturn, 1) := by decide +kernel
theorem dX7_lowest_0 : decode cX7_lowest 0 = .ok (.aload_n 0, 1) := by decide +kernel
theorem dX7_lowest_1 : decode cX7_lowest 1 = .ok (.lconst 0, 1) := by decide +kernel
theorem dX7_lowest_2 : decode cX7_lowest 2 = .ok (.putfield 147, 3) := by decide +kernel
theorem dX7_lowest_5 : decode cX7_lowest 5 = .ok (.aload_n 0, 1) := by decide +kernel
theorem dX7_lowest_6 : decode cX7_lowest 6 = .ok (.lconst 1, 1) := by decide +kernel
theorem dX7_lowest_7 : decode cX7_lowest 7 = .ok (.putfield 151, 3) := by decide +kernel
theorem dX7_lowest_10 : decode cX7_lowest 10 = .ok (.aload_n 0, 1) := by decide +kernel
theorem dX7_lowest_11 : decode cX7_lowest 11 = .ok (.invokevirtual 154, 3) := by decide +kernel
theorem dX7_lowest_14 : decode cX7_lowest 14 = .ok (.ifCond .eq 4, 3) := by decide +kernel
theorem dX7_lowest_17 : decode cX7_lowest 17 = .ok (.return_, 1) := by decide +kernel
theorem dX7_lowest_18 : decode cX7_lowest 18 = .ok (.lload_n 1, 1) := by decide +kernel
theorem dX7_lowest_19 : decode cX7_lowest 19 = .ok (.lconst 0, 1) := by decide +kernel
theorem dX7_lowest_20 : decode cX7_lowest 20 = .ok (.lcmp, 1) := by decide +kernel
theorem dX7_lowest_21 : decode cX7_lowest 21 = .ok (.ifCond .ge 8, 3) := by decide +kernel
theorem dX7_lowest_24 : decode cX7_lowest 24 = .ok (.lload_n 1, 1) := by decide +kernel
theorem dX7_lowest_25 : decode cX7_lowest 25 = .ok (.lneg, 1) := by decide +kernel
theorem dX7_lowest_26 : decode cX7_lowest 26 = .ok (.goto 4, 3) := by decide +kernel
theorem dX7_lowest_29 : decode cX7_lowest 29 = .ok (.lload_n 1, 1) := by decide +kernel
theorem dX7_lowest_30 : decode cX7_lowest 30 = .ok (.lstore 5, 2) := by decide +kernel
theorem dX7_lowest_32 : decode cX7_lowest 32 = .ok (.lload_n 3, 1) := by decide +kernel
theorem dX7_lowest_33 : decode cX7_lowest 33 = .ok (.lconst 0, 1) := by decide +kernel
theorem dX7_lowest_34 : decode cX7_lowest 34 = .ok (.lcmp, 1) := by decide +kernel
theorem dX7_lowest_35 : decode cX7_lowest 35 = .ok (.ifCond .ge 8, 3) := by decide +kernel
theorem dX7_lowest_38 : decode cX7_lowest 38 = .ok (.lload_n 3, 1) := by decide +kernel
theorem dX7_lowest_39 : decode cX7_lowest 39 = .ok (.lneg, 1) := by decide +kernel
theorem dX7_lowest_40 : decode cX7_lowest 40 = .ok (.goto 4, 3) := by decide +kernel
theorem dX7_lowest_43 : decode cX7_lowest 43 = .ok (.lload_n 3, 1) := by decide +kernel
theorem dX7_lowest_44 : decode cX7_lowest 44 = .ok (.lstore 7, 2) := by decide +kernel
theorem dX7_lowest_46 : decode cX7_lowest 46 = .ok (.lload 7, 2) := by decide +kernel
theorem dX7_lowest_48 : decode cX7_lowest 48 = .ok (.lconst 0, 1) := by decide +kernel
theorem dX7_lowest_49 : decode cX7_lowest 49 = .ok (.lcmp, 1) := by decide +kernel
theorem dX7_lowest_50 : decode cX7_lowest 50 = .ok (.ifCond .eq 21, 3) := by decide +kernel
theorem dX7_lowest_53 : decode cX7_lowest 53 = .ok (.lload 5, 2) := by decide +kernel
theorem dX7_lowest_55 : decode cX7_lowest 55 = .ok (.lload 7, 2) := by decide +kernel
theorem dX7_lowest_57 : decode cX7_lowest 57 = .ok (.lrem, 1) := by decide +kernel
theorem dX7_lowest_58 : decode cX7_lowest 58 = .ok (.lstore 9, 2) := by decide +kernel
theorem dX7_lowest_60 : decode cX7_lowest 60 = .ok (.lload 7, 2) := by decide +kernel
theorem dX7_lowest_62 : decode cX7_lowest 62 = .ok (.lstore 5, 2) := by decide +kernel
theorem dX7_lowest_64 : decode cX7_lowest 64 = .ok (.lload 9, 2) := by decide +kernel
theorem dX7_lowest_66 : decode cX7_lowest 66 = .ok (.lstore 7, 2) := by decide +kernel
theorem dX7_lowest_68 : decode cX7_lowest 68 = .ok (.goto (-22), 3) := by decide +kernel
theorem dX7_lowest_71 : decode cX7_lowest 71 = .ok (.aload_n 0, 1) := by decide +kernel
theorem dX7_lowest_72 : decode cX7_lowest 72 = .ok (.lload_n 3, 1) := by decide +kernel
theorem dX7_lowest_73 : decode cX7_lowest 73 = .ok (.lconst 0, 1) := by decide +kernel
theorem dX7_lowest_74 : decode cX7_lowest 74 = .ok (.lcmp, 1) := by decide +kernel
theorem dX7_lowest_75 : decode cX7_lowest 75 = .ok (.ifCond .ge 11, 3) := by decide +kernel
theorem dX7_lowest_78 : decode cX7_lowest 78 = .ok (.lload_n 1, 1) := by decide +kernel
theorem dX7_lowest_79 : decode cX7_lowest 79 = .ok (.lneg, 1) := by decide +kernel
theorem dX7_lowest_80 : decode cX7_lowest 80 = .ok (.lload 5, 2) := by decide +kernel
theorem dX7_lowest_82 : decode cX7_lowest 82 = .ok (.ldiv, 1) := by decide +kernel
theorem dX7_lowest_83 : decode cX7_lowest 83 = .ok (.goto 7, 3) := by decide +kernel
theorem dX7_lowest_86 : decode cX7_lowest 86 = .ok (.lload_n 1, 1) := by decide +kernel
theorem dX7_lowest_87 : decode cX7_lowest 87 = .ok (.lload 5, 2) := by decide +kernel
theorem dX7_lowest_89 : decode cX7_lowest 89 = .ok (.ldiv, 1) := by decide +kernel
theorem dX7_lowest_90 : decode cX7_lowest 90 = .ok (.putfield 147, 3) := by decide +kernel
theorem dX7_lowest_93 : decode cX7_lowest 93 = .ok (.aload_n 0, 1) := by decide +kernel
theorem dX7_lowest_94 : decode cX7_lowest 94 = .ok (.lload_n 3, 1) := by decide +kernel
theorem dX7_lowest_95 : decode cX7_lowest 95 = .ok (.lconst 0, 1) := by decide +kernel
theorem dX7_lowest_96 : decode cX7_lowest 96 = .ok (.lcmp, 1) := by decide +kernel
theorem dX7_lowest_97 : decode cX7_lowest 97 = .ok (.ifCond .ge 11, 3) := by decide +kernel
theorem dX7_lowest_100 : decode cX7_lowest 100 = .ok (.lload_n 3, 1) := by decide +kernel
theorem dX7_lowest_101 : decode cX7_lowest 101 = .ok (.lneg, 1) := by decide +kernel
theorem dX7_lowest_102 : decode cX7_lowest 102 = .ok (.lload 5, 2) := by decide +kernel
theorem dX7_lowest_104 : decode cX7_lowest 104 = .ok (.ldiv, 1) := by decide +kernel
theorem dX7_lowest_105 : decode cX7_lowest 105 = .ok (.goto 7, 3) := by decide +kernel
theorem dX7_lowest_108 : decode cX7_lowest 108 = .ok (.lload_n 3, 1) := by decide +kernel
theorem dX7_lowest_109 : decode cX7_lowest 109 = .ok (.lload 5, 2) := by decide +kernel
theorem dX7_lowest_111 : decode cX7_lowest 111 = .ok (.ldiv, 1) := by decide +kernel
theorem dX7_lowest_112 : decode cX7_lowest 112 = .ok (.putfield 151, 3) := by decide +kernel
theorem dX7_lowest_115 : decode cX7_lowest 115 = .ok (.return_, 1) := by decide +kernel
theorem dX7_sum_0 : decode cX7_sum 0 = .ok (.aload_n 0, 1) := by decide +kernel
theorem dX7_sum_1 : decode cX7_sum 1 = .ok (.lload_n 1, 1) := by decide +kernel
theorem dX7_sum_2 : decode cX7_sum 2 = .ok (.lload 7, 2) := by decide +kernel
theorem dX7_sum_4 : decode cX7_sum 4 = .ok (.invokevirtual 158, 3) := by decide +kernel
theorem dX7_sum_7 : decode cX7_sum 7 = .ok (.lstore 9, 2) := by decide +kernel
theorem dX7_sum_9 : decode cX7_sum 9 = .ok (.aload_n 0, 1) := by decide +kernel
theorem dX7_sum_10 : decode cX7_sum 10 = .ok (.lload 5, 2) := by decide +kernel
theorem dX7_sum_12 : decode cX7_sum 12 = .ok (.lload_n 3, 1) := by decide +kernel
theorem dX7_sum_13 : decode cX7_sum 13 = .ok (.invokevirtual 158, 3) := by decide +kernel
theorem dX7_sum_16 : decode cX7_sum 16 = .ok (.lstore 11, 2) := by decide +kernel
theorem dX7_sum_18 : decode cX7_sum 18 = .ok (.aload_n 0, 1) := by decide +kernel
theorem dX7_sum_19 : decode cX7_sum 19 = .ok (.lload 9, 2) := by decide +kernel
theorem dX7_sum_21 : decode cX7_sum 21 = .ok (.lload 11, 2) := by decide +kernel
theorem dX7_sum_23 : decode cX7_sum 23 = .ok (.invokevirtual 162, 3) := by decide +kernel
theorem dX7_sum_26 : decode cX7_sum 26 = .ok (.lstore 13, 2) := by decide +kernel
theorem dX7_sum_28 : decode cX7_sum 28 = .ok (.aload_n 0, 1) := by decide +kernel
theorem dX7_sum_29 : decode cX7_sum 29 = .ok (.lload 13, 2) := by decide +kernel
theorem dX7_sum_31 : decode cX7_sum 31 = .ok (.aload_n 0, 1) := by decide +kernel
theorem dX7_sum_32 : decode cX7_sum 32 = .ok (.lload_n 3, 1) := by decide +kernel
theorem dX7_sum_33 : decode cX7_sum 33 = .ok (.lload 7, 2) := by decide +kernel
theorem dX7_sum_35 : decode cX7_sum 35 = .ok (.invokevirtual 158, 3) := by decide +kernel
theorem dX7_sum_38 : decode cX7_sum 38 = .ok (.invokevirtual 165, 3) := by decide +kernel
theorem dX7_sum_41 : decode cX7_sum 41 = .ok (.return_, 1) := by decide +kernel
theorem dX7_difference_0 : decode cX7_difference 0 = .ok (.aload_n 0, 1) := by decide +kernel
theorem dX7_difference_1 : decode cX7_difference 1 = .ok (.lload_n 1, 1) := by decide +kernel
theorem dX7_difference_2 : decode cX7_difference 2 = .ok (.lload 7, 2) := by decide +kernel
theorem dX7_difference_4 : decode cX7_difference 4 = .ok (.invokevirtual 158, 3) := by decide +kernel
theorem dX7_difference_7 : decode cX7_difference 7 = .ok (.lstore 9, 2) := by decide +kernel
theorem dX7_difference_9 : decode cX7_difference 9 = .ok (.aload_n 0, 1) := by decide +kernel
theorem dX7_difference_10 : decode cX7_difference 10 = .ok (.lload 5, 2) := by decide +kernel
theorem dX7_difference_12 : decode cX7_difference 12 = .ok (.lload_n 3, 1) := by decide +kernel
theorem dX7_difference_13 : decode cX7_difference 13 = .ok (.invokevirtual 158, 3) := by decide +kernel
theorem dX7_difference_16 : decode cX7_difference 16 = .ok (.lstore 11, 2) := by decide +kernel
theorem dX7_difference_18 : decode cX7_difference 18 = .ok (.aload_n 0, 1) := by decide +kernel
theorem dX7_difference_19 : decode cX7_difference 19 = .ok (.lload 9, 2) := by decide +kernel
theorem dX7_difference_21 : decode cX7_difference 21 = .ok (.lload 11, 2) := by decide +kernel
theorem dX7_difference_23 : decode cX7_difference 23 = .ok (.lneg, 1) := by decide +kernel
theorem dX7_difference_24 : decode cX7_difference 24 = .ok (.invokevirtual 162, 3) := by decide +kernel
theorem dX7_difference_27 : decode cX7_difference 27 = .ok (.lstore 13, 2) := by decide +kernel
theorem dX7_difference_29 : decode cX7_difference 29 = .ok (.aload_n 0, 1) := by decide +kernel
theorem dX7_difference_30 : decode cX7_difference 30 = .ok (.lload 13, 2) := by decide +kernel
theorem dX7_difference_32 : decode cX7_difference 32 = .ok (.aload_n 0, 1) := by decide +kernel
theorem dX7_difference_33 : decode cX7_difference 33 = .ok (.lload_n 3, 1) := by decide +kernel
theorem dX7_difference_34 : decode cX7_difference 34 = .ok (.lload 7, 2) := by decide +kernel
theorem dX7_difference_36 : decode cX7_difference 36 = .ok (.invokevirtual 158, 3) := by decide +kernel
theorem dX7_difference_39 : decode cX7_difference 39 = .ok (.invokevirtual 165, 3) := by decide +kernel
theorem dX7_difference_42 : decode cX7_difference 42 = .ok (.return_, 1) := by decide +kernel
theorem dX7_product_0 : decode cX7_product 0 = .ok (.aload_n 0, 1) := by decide +kernel
theorem dX7_product_1 : decode cX7_product 1 = .ok (.lload_n 1, 1) := by decide +kernel
theorem dX7_product_2 : decode cX7_product 2 = .ok (.lload 5, 2) := by decide +kernel
theorem dX7_product_4 : decode cX7_product 4 = .ok (.invokevirtual 158, 3) := by decide +kernel
theorem dX7_product_7 : decode cX7_product 7 = .ok (.lstore 9, 2) := by decide +kernel
theorem dX7_product_9 : decode cX7_product 9 = .ok (.aload_n 0, 1) := by decide +kernel
theorem dX7_product_10 : decode cX7_product 10 = .ok (.lload 9, 2) := by decide +kernel
theorem dX7_product_12 : decode cX7_product 12 = .ok (.aload_n 0, 1) := by decide +kernel
theorem dX7_product_13 : decode cX7_product 13 = .ok (.lload_n 3, 1) := by decide +kernel
theorem dX7_product_14 : decode cX7_product 14 = .ok (.lload 7, 2) := by decide +kernel
theorem dX7_product_16 : decode cX7_product 16 = .ok (.invokevirtual 158, 3) := by decide +kernel
theorem dX7_product_19 : decode cX7_product 19 = .ok (.invokevirtual 165, 3) := by decide +kernel
theorem dX7_product_22 : decode cX7_product 22 = .ok (.return_, 1) := by decide +kernel
theorem dX7_quotient_0 : decode cX7_quotient 0 = .ok (.aload_n 0, 1) := by decide +kernel
theorem dX7_quotient_1 : decode cX7_quotient 1 = .ok (.dup, 1) := by decide +kernel
theorem dX7_quotient_2 : decode cX7_quotient 2 = .ok (.getfield 142, 3) := by decide +kernel
theorem dX7_quotient_5 : decode cX7_quotient 5 = .ok (.lload 5, 2) := by decide +kernel
theorem dX7_quotient_7 : decode cX7_quotient 7 = .ok (.lconst 0, 1) := by decide +kernel
theorem dX7_quotient_8 : decode cX7_quotient 8 = .ok (.lcmp, 1) := by decide +kernel
theorem dX7_quotient_9 : decode cX7_quotient 9 = .ok (.ifCond .ne 14, 3) := by decide +kernel
theorem dX7_quotient_12 : decode cX7_quotient 12 = .ok (.aload_n 0, 1) := by decide +kernel
theorem dX7_quotient_13 : decode cX7_quotient 13 = .ok (.getfield 139, 3) := by decide +kernel
theorem dX7_quotient_16 : decode cX7_quotient 16 = .ok (.ifCond .ne 7, 3) := by decide +kernel
theorem dX7_quotient_19 : decode cX7_quotient 19 = .ok (.iconst 1, 1) := by decide +kernel
theorem dX7_quotient_20 : decode cX7_quotient 20 = .ok (.goto 4, 3) := by decide +kernel
theorem dX7_quotient_23 : decode cX7_quotient 23 = .ok (.iconst 0, 1) := by decide +kernel
theorem dX7_quotient_24 : decode cX7_quotient 24 = .ok (.ior, 1) := by decide +kernel
theorem dX7_quotient_25 : decode cX7_quotient 25 = .ok (.putfield 142, 3) := by decide +kernel
theorem dX7_quotient_28 : decode cX7_quotient 28 = .ok (.aload_n 0, 1) := by decide +kernel
theorem dX7_quotient_29 : decode cX7_quotient 29 = .ok (.lload_n 1, 1) := by decide +kernel
theorem dX7_quotient_30 : decode cX7_quotient 30 = .ok (.lload 7, 2) := by decide +kernel
theorem dX7_quotient_32 : decode cX7_quotient 32 = .ok (.invokevirtual 158, 3) := by decide +kernel
theorem dX7_quotient_35 : decode cX7_quotient 35 = .ok (.lstore 9, 2) := by decide +kernel
theorem dX7_quotient_37 : decode cX7_quotient 37 = .ok (.aload_n 0, 1) := by decide +kernel
theorem dX7_quotient_38 : decode cX7_quotient 38 = .ok (.lload 9, 2) := by decide +kernel
theorem dX7_quotient_40 : decode cX7_quotient 40 = .ok (.aload_n 0, 1) := by decide +kernel
theorem dX7_quotient_41 : decode cX7_quotient 41 = .ok (.lload_n 3, 1) := by decide +kernel
theorem dX7_quotient_42 : decode cX7_quotient 42 = .ok (.lload 5, 2) := by decide +kernel
theorem dX7_quotient_44 : decode cX7_quotient 44 = .ok (.invokevirtual 158, 3) := by decide +kernel
theorem dX7_quotient_47 : decode cX7_quotient 47 = .ok (.invokevirtual 165, 3) := by decide +kernel
theorem dX7_quotient_50 : decode cX7_quotient 50 = .ok (.return_, 1) := by decide +kernel
theorem dX7_inOrder_0 : decode cX7_inOrder 0 = .ok (.iload_n 1, 1) := by decide +kernel
theorem dX7_inOrder_1 : decode cX7_inOrder 1 = .ok (.aload_n 0, 1) := by decide +kernel
theorem dX7_inOrder_2 : decode cX7_inOrder 2 = .ok (.getfield 7, 3) := by decide +kernel
theorem dX7_inOrder_5 : decode cX7_inOrder 5 = .ok (.if_icmp .ge 9, 3) := by decide +kernel
theorem dX7_inOrder_8 : decode cX7_inOrder 8 = .ok (.iload_n 1, 1) := by decide +kernel
theorem dX7_inOrder_9 : decode cX7_inOrder 9 = .ok (.iconst 1, 1) := by decide +kernel
theorem dX7_inOrder_10 : decode cX7_inOrder 10 = .ok (.iadd, 1) := by decide +kernel
theorem dX7_inOrder_11 : decode cX7_inOrder 11 = .ok (.goto 4, 3) := by decide +kernel
theorem dX7_inOrder_14 : decode cX7_inOrder 14 = .ok (.iconst 0, 1) := by decide +kernel
theorem dX7_inOrder_15 : decode cX7_inOrder 15 = .ok (.ireturn, 1) := by decide +kernel
theorem dX7_matrix_0 : decode cX7_matrix 0 = .ok (.iconst 0, 1) := by decide +kernel
theorem dX7_matrix_1 : decode cX7_matrix 1 = .ok (.istore_n 2, 1) := by decide +kernel
theorem dX7_matrix_2 : decode cX7_matrix 2 = .ok (.iload_n 2, 1) := by decide +kernel
theorem dX7_matrix_3 : decode cX7_matrix 3 = .ok (.aload_n 0, 1) := by decide +kernel
theorem dX7_matrix_4 : decode cX7_matrix 4 = .ok (.getfield 7, 3) := by decide +kernel
theorem dX7_matrix_7 : decode cX7_matrix 7 = .ok (.if_icmp .gt 127, 3) := by decide +kernel
theorem dX7_matrix_10 : decode cX7_matrix 10 = .ok (.aload_n 0, 1) := by decide +kernel
theorem dX7_matrix_11 : decode cX7_matrix 11 = .ok (.getfield 33, 3) := by decide +kernel
theorem dX7_matrix_14 : decode cX7_matrix 14 = .ok (.iload_n 2, 1) := by decide +kernel
theorem dX7_matrix_15 : decode cX7_matrix 15 = .ok (.iconst 1, 1) := by decide +kernel
theorem dX7_matrix_16 : decode cX7_matrix 16 = .ok (.bastore, 1) := by decide +kernel
theorem dX7_matrix_17 : decode cX7_matrix 17 = .ok (.iconst 0, 1) := by decide +kernel
theorem dX7_matrix_18 : decode cX7_matrix 18 = .ok (.istore_n 3, 1) := by decide +kernel
theorem dX7_matrix_19 : decode cX7_matrix 19 = .ok (.iload_n 3, 1) := by decide +kernel
theorem dX7_matrix_20 : decode cX7_matrix 20 = .ok (.aload_n 0, 1) := by decide +kernel
theorem dX7_matrix_21 : decode cX7_matrix 21 = .ok (.getfield 7, 3) := by decide +kernel
theorem dX7_matrix_24 : decode cX7_matrix 24 = .ok (.if_icmp .gt 104, 3) := by decide +kernel
theorem dX7_matrix_27 : decode cX7_matrix 27 = .ok (.aload_n 0, 1) := by decide +kernel
theorem dX7_matrix_28 : decode cX7_matrix 28 = .ok (.getfield 13, 3) := by decide +kernel
theorem dX7_matrix_31 : decode cX7_matrix 31 = .ok (.bipush 25, 2) := by decide +kernel
theorem dX7_matrix_33 : decode cX7_matrix 33 = .ok (.iload_n 1, 1) := by decide +kernel
theorem dX7_matrix_34 : decode cX7_matrix 34 = .ok (.imul, 1) := by decide +kernel
theorem dX7_matrix_35 : decode cX7_matrix 35 = .ok (.aload_n 0, 1) := by decide +kernel
theorem dX7_matrix_36 : decode cX7_matrix 36 = .ok (.iload_n 2, 1) := by decide +kernel
theorem dX7_matrix_37 : decode cX7_matrix 37 = .ok (.iload_n 3, 1) := by decide +kernel
theorem dX7_matrix_38 : decode cX7_matrix 38 = .ok (.invokevirtual 125, 3) := by decide +kernel
theorem dX7_matrix_41 : decode cX7_matrix 41 = .ok (.iadd, 1) := by decide +kernel
theorem dX7_matrix_42 : decode cX7_matrix 42 = .ok (.iaload, 1) := by decide +kernel
theorem dX7_matrix_43 : decode cX7_matrix 43 = .ok (.i2l, 1) := by decide +kernel
theorem dX7_matrix_44 : decode cX7_matrix 44 = .ok (.lstore 4, 2) := by decide +kernel
theorem dX7_matrix_46 : decode cX7_matrix 46 = .ok (.iload_n 2, 1) := by decide +kernel
theorem dX7_matrix_47 : decode cX7_matrix 47 = .ok (.iload_n 3, 1) := by decide +kernel
theorem dX7_matrix_48 : decode cX7_matrix 48 = .ok (.if_icmp .eq 18, 3) := by decide +kernel
theorem dX7_matrix_51 : decode cX7_matrix 51 = .ok (.lload 4, 2) := by decide +kernel
theorem dX7_matrix_53 : decode cX7_matrix 53 = .ok (.ldc2_w 169, 3) := by decide +kernel
theorem dX7_matrix_56 : decode cX7_matrix 56 = .ok (.lrem, 1) := by decide +kernel
theorem dX7_matrix_57 : decode cX7_matrix 57 = .ok (.lconst 0, 1) := by decide +kernel
theorem dX7_matrix_58 : decode cX7_matrix 58 = .ok (.lcmp, 1) := by decide +kernel
theorem dX7_matrix_59 : decode cX7_matrix 59 = .ok (.ifCond .eq 7, 3) := by decide +kernel
theorem dX7_matrix_62 : decode cX7_matrix 62 = .ok (.iconst 1, 1) := by decide +kernel
theorem dX7_matrix_63 : decode cX7_matrix 63 = .ok (.goto 4, 3) := by decide +kernel
theorem dX7_matrix_66 : decode cX7_matrix 66 = .ok (.iconst 0, 1) := by decide +kernel
theorem dX7_matrix_67 : decode cX7_matrix 67 = .ok (.istore 6, 2) := by decide +kernel
theorem dX7_matrix_69 : decode cX7_matrix 69 = .ok (.aload_n 0, 1) := by decide +kernel
theorem dX7_matrix_70 : decode cX7_matrix 70 = .ok (.getfield 20, 3) := by decide +kernel
theorem dX7_matrix_73 : decode cX7_matrix 73 = .ok (.iconst 5, 1) := by decide +kernel
theorem dX7_matrix_74 : decode cX7_matrix 74 = .ok (.iload_n 2, 1) := by decide +kernel
theorem dX7_matrix_75 : decode cX7_matrix 75 = .ok (.imul, 1) := by decide +kernel
theorem dX7_matrix_76 : decode cX7_matrix 76 = .ok (.iload_n 3, 1) := by decide +kernel
theorem dX7_matrix_77 : decode cX7_matrix 77 = .ok (.iadd, 1) := by decide +kernel
theorem dX7_matrix_78 : decode cX7_matrix 78 = .ok (.iload_n 2, 1) := by decide +kernel
theorem dX7_matrix_79 : decode cX7_matrix 79 = .ok (.iload_n 3, 1) := by decide +kernel
theorem dX7_matrix_80 : decode cX7_matrix 80 = .ok (.if_icmp .eq 8, 3) := by decide +kernel
theorem dX7_matrix_83 : decode cX7_matrix 83 = .ok (.iload 6, 2) := by decide +kernel
theorem dX7_matrix_85 : decode cX7_matrix 85 = .ok (.ifCond .eq 8, 3) := by decide +kernel
theorem dX7_matrix_88 : decode cX7_matrix 88 = .ok (.lload 4, 2) := by decide +kernel
theorem dX7_matrix_90 : decode cX7_matrix 90 = .ok (.goto 9, 3) := by decide +kernel
theorem dX7_matrix_93 : decode cX7_matrix 93 = .ok (.lload 4, 2) := by decide +kernel
theorem dX7_matrix_95 : decode cX7_matrix 95 = .ok (.ldc2_w 169, 3) := by decide +kernel
theorem dX7_matrix_98 : decode cX7_matrix 98 = .ok (.ldiv, 1) := by decide +kernel
theorem dX7_matrix_99 : decode cX7_matrix 99 = .ok (.lastore, 1) := by decide +kernel
theorem dX7_matrix_100 : decode cX7_matrix 100 = .ok (.aload_n 0, 1) := by decide +kernel
theorem dX7_matrix_101 : decode cX7_matrix 101 = .ok (.getfield 24, 3) := by decide +kernel
theorem dX7_matrix_104 : decode cX7_matrix 104 = .ok (.iconst 5, 1) := by decide +kernel
theorem dX7_matrix_105 : decode cX7_matrix 105 = .ok (.iload_n 2, 1) := by decide +kernel
theorem dX7_matrix_106 : decode cX7_matrix 106 = .ok (.imul, 1) := by decide +kernel
theorem dX7_matrix_107 : decode cX7_matrix 107 = .ok (.iload_n 3, 1) := by decide +kernel
theorem dX7_matrix_108 : decode cX7_matrix 108 = .ok (.iadd, 1) := by decide +kernel
theorem dX7_matrix_109 : decode cX7_matrix 109 = .ok (.iload 6, 2) := by decide +kernel
theorem dX7_matrix_111 : decode cX7_matrix 111 = .ok (.ifCond .eq 9, 3) := by decide +kernel
theorem dX7_matrix_114 : decode cX7_matrix 114 = .ok (.ldc2_w 169, 3) := by decide +kernel
theorem dX7_matrix_117 : decode cX7_matrix 117 = .ok (.goto 4, 3) := by decide +kernel
theorem dX7_matrix_120 : decode cX7_matrix 120 = .ok (.lconst 1, 1) := by decide +kernel
theorem dX7_matrix_121 : decode cX7_matrix 121 = .ok (.lastore, 1) := by decide +kernel
theorem dX7_matrix_122 : decode cX7_matrix 122 = .ok (.iinc 3 1, 3) := by decide +kernel
theorem dX7_matrix_125 : decode cX7_matrix 125 = .ok (.goto (-106), 3) := by decide +kernel
theorem dX7_matrix_128 : decode cX7_matrix 128 = .ok (.iinc 2 1, 3) := by decide +kernel
theorem dX7_matrix_131 : decode cX7_matrix 131 = .ok (.goto (-129), 3) := by decide +kernel
theorem dX7_matrix_134 : decode cX7_matrix 134 = .ok (.return_, 1) := by decide +kernel
theorem dX7_keepMatrix_0 : decode cX7_keepMatrix 0 = .ok (.iconst 0, 1) := by decide +kernel
theorem dX7_keepMatrix_1 : decode cX7_keepMatrix 1 = .ok (.istore_n 1, 1) := by decide +kernel
theorem dX7_keepMatrix_2 : decode cX7_keepMatrix 2 = .ok (.iload_n 1, 1) := by decide +kernel
theorem dX7_keepMatrix_3 : decode cX7_keepMatrix 3 = .ok (.bipush 25, 2) := by decide +kernel
theorem dX7_keepMatrix_5 : decode cX7_keepMatrix 5 = .ok (.if_icmp .ge 33, 3) := by decide +kernel
theorem dX7_keepMatrix_8 : decode cX7_keepMatrix 8 = .ok (.aload_n 0, 1) := by decide +kernel
theorem dX7_keepMatrix_9 : decode cX7_keepMatrix 9 = .ok (.getfield 27, 3) := by decide +kernel
theorem dX7_keepMatrix_12 : decode cX7_keepMatrix 12 = .ok (.iload_n 1, 1) := by decide +kernel
theorem dX7_keepMatrix_13 : decode cX7_keepMatrix 13 = .ok (.aload_n 0, 1) := by decide +kernel
theorem dX7_keepMatrix_14 : decode cX7_keepMatrix 14 = .ok (.getfield 20, 3) := by decide +kernel
theorem dX7_keepMatrix_17 : decode cX7_keepMatrix 17 = .ok (.iload_n 1, 1) := by decide +kernel
theorem dX7_keepMatrix_18 : decode cX7_keepMatrix 18 = .ok (.laload, 1) := by decide +kernel
theorem dX7_keepMatrix_19 : decode cX7_keepMatrix 19 = .ok (.lastore, 1) := by decide +kernel
theorem dX7_keepMatrix_20 : decode cX7_keepMatrix 20 = .ok (.aload_n 0, 1) := by decide +kernel
theorem dX7_keepMatrix_21 : decode cX7_keepMatrix 21 = .ok (.getfield 30, 3) := by decide +kernel
theorem dX7_keepMatrix_24 : decode cX7_keepMatrix 24 = .ok (.iload_n 1, 1) := by decide +kernel
theorem dX7_keepMatrix_25 : decode cX7_keepMatrix 25 = .ok (.aload_n 0, 1) := by decide +kernel
theorem dX7_keepMatrix_26 : decode cX7_keepMatrix 26 = .ok (.getfield 24, 3) := by decide +kernel
theorem dX7_keepMatrix_29 : decode cX7_keepMatrix 29 = .ok (.iload_n 1, 1) := by decide +kernel
theorem dX7_keepMatrix_30 : decode cX7_keepMatrix 30 = .ok (.laload, 1) := by decide +kernel
theorem dX7_keepMatrix_31 : decode cX7_keepMatrix 31 = .ok (.lastore, 1) := by decide +kernel
theorem dX7_keepMatrix_32 : decode cX7_keepMatrix 32 = .ok (.iinc 1 1, 3) := by decide +kernel
theorem dX7_keepMatrix_35 : decode cX7_keepMatrix 35 = .ok (.goto (-33), 3) := by decide +kernel
theorem dX7_keepMatrix_38 : decode cX7_keepMatrix 38 = .ok (.return_, 1) := by decide +kernel
theorem dX7_into_0 : decode cX7_into 0 = .ok (.aload_n 0, 1) := by decide +kernel
theorem dX7_into_1 : decode cX7_into 1 = .ok (.getfield 20, 3) := by decide +kernel
theorem dX7_into_4 : decode cX7_into 4 = .ok (.iconst 5, 1) := by decide +kernel
theorem dX7_into_5 : decode cX7_into 5 = .ok (.iload_n 1, 1) := by decide +kernel
theorem dX7_into_6 : decode cX7_into 6 = .ok (.imul, 1) := by decide +kernel
theorem dX7_into_7 : decode cX7_into 7 = .ok (.iload_n 2, 1) := by decide +kernel
theorem dX7_into_8 : decode cX7_into 8 = .ok (.iadd, 1) := by decide +kernel
theorem dX7_into_9 : decode cX7_into 9 = .ok (.aload_n 0, 1) := by decide +kernel
theorem dX7_into_10 : decode cX7_into 10 = .ok (.getfield 147, 3) := by decide +kernel
theorem dX7_into_13 : decode cX7_into 13 = .ok (.lastore, 1) := by decide +kernel
theorem dX7_into_14 : decode cX7_into 14 = .ok (.aload_n 0, 1) := by decide +kernel
theorem dX7_into_15 : decode cX7_into 15 = .ok (.getfield 24, 3) := by decide +kernel
theorem dX7_into_18 : decode cX7_into 18 = .ok (.iconst 5, 1) := by decide +kernel
theorem dX7_into_19 : decode cX7_into 19 = .ok (.iload_n 1, 1) := by decide +kernel
theorem dX7_into_20 : decode cX7_into 20 = .ok (.imul, 1) := by decide +kernel
theorem dX7_into_21 : decode cX7_into 21 = .ok (.iload_n 2, 1) := by decide +kernel
theorem dX7_into_22 : decode cX7_into 22 = .ok (.iadd, 1) := by decide +kernel
theorem dX7_into_23 : decode cX7_into 23 = .ok (.aload_n 0, 1) := by decide +kernel
theorem dX7_into_24 : decode cX7_into 24 = .ok (.getfield 151, 3) := by decide +kernel
theorem dX7_into_27 : decode cX7_into 27 = .ok (.lastore, 1) := by decide +kernel
theorem dX7_into_28 : decode cX7_into 28 = .ok (.aload_n 0, 1) := by decide +kernel
theorem dX7_into_29 : decode cX7_into 29 = .ok (.getfield 20, 3) := by decide +kernel
theorem dX7_into_32 : decode cX7_into 32 = .ok (.iconst 5, 1) := by decide +kernel
theorem dX7_into_33 : decode cX7_into 33 = .ok (.iload_n 2, 1) := by decide +kernel
theorem dX7_into_34 : decode cX7_into 34 = .ok (.imul, 1) := by decide +kernel
theorem dX7_into_35 : decode cX7_into 35 = .ok (.iload_n 1, 1) := by decide +kernel
theorem dX7_into_36 : decode cX7_into 36 = .ok (.iadd, 1) := by decide +kernel
theorem dX7_into_37 : decode cX7_into 37 = .ok (.aload_n 0, 1) := by decide +kernel
theorem dX7_into_38 : decode cX7_into 38 = .ok (.getfield 147, 3) := by decide +kernel
theorem dX7_into_41 : decode cX7_into 41 = .ok (.lastore, 1) := by decide +kernel
theorem dX7_into_42 : decode cX7_into 42 = .ok (.aload_n 0, 1) := by decide +kernel
theorem dX7_into_43 : decode cX7_into 43 = .ok (.getfield 24, 3) := by decide +kernel
theorem dX7_into_46 : decode cX7_into 46 = .ok (.iconst 5, 1) := by decide +kernel
theorem dX7_into_47 : decode cX7_into 47 = .ok (.iload_n 2, 1) := by decide +kernel
theorem dX7_into_48 : decode cX7_into 48 = .ok (.imul, 1) := by decide +kernel
theorem dX7_into_49 : decode cX7_into 49 = .ok (.iload_n 1, 1) := by decide +kernel
theorem dX7_into_50 : decode cX7_into 50 = .ok (.iadd, 1) := by decide +kernel
theorem dX7_into_51 : decode cX7_into 51 = .ok (.aload_n 0, 1) := by decide +kernel
theorem dX7_into_52 : decode cX7_into 52 = .ok (.getfield 151, 3) := by decide +kernel
theorem dX7_into_55 : decode cX7_into 55 = .ok (.lastore, 1) := by decide +kernel
theorem dX7_into_56 : decode cX7_into 56 = .ok (.return_, 1) := by decide +kernel
theorem dX7_divide_0 : decode cX7_divide 0 = .ok (.aload_n 0, 1) := by decide +kernel
theorem dX7_divide_1 : decode cX7_divide 1 = .ok (.getfield 109, 3) := by decide +kernel
theorem dX7_divide_4 : decode cX7_divide 4 = .ok (.istore_n 2, 1) := by decide +kernel
theorem dX7_divide_5 : decode cX7_divide 5 = .ok (.aload_n 0, 1) := by decide +kernel
theorem dX7_divide_6 : decode cX7_divide 6 = .ok (.getfield 37, 3) := by decide +kernel
theorem dX7_divide_9 : decode cX7_divide 9 = .ok (.iload_n 2, 1) := by decide +kernel
theorem dX7_divide_10 : decode cX7_divide 10 = .ok (.iload_n 1, 1) := by decide +kernel
theorem dX7_divide_11 : decode cX7_divide 11 = .ok (.iastore, 1) := by decide +kernel
theorem dX7_divide_12 : decode cX7_divide 12 = .ok (.aload_n 0, 1) := by decide +kernel
theorem dX7_divide_13 : decode cX7_divide 13 = .ok (.getfield 40, 3) := by decide +kernel
theorem dX7_divide_16 : decode cX7_divide 16 = .ok (.iload_n 2, 1) := by decide +kernel
theorem dX7_divide_17 : decode cX7_divide 17 = .ok (.aload_n 0, 1) := by decide +kernel
theorem dX7_divide_18 : decode cX7_divide 18 = .ok (.getfield 20, 3) := by decide +kernel
theorem dX7_divide_21 : decode cX7_divide 21 = .ok (.bipush 6, 2) := by decide +kernel
theorem dX7_divide_23 : decode cX7_divide 23 = .ok (.iload_n 1, 1) := by decide +kernel
theorem dX7_divide_24 : decode cX7_divide 24 = .ok (.imul, 1) := by decide +kernel
theorem dX7_divide_25 : decode cX7_divide 25 = .ok (.laload, 1) := by decide +kernel
theorem dX7_divide_26 : decode cX7_divide 26 = .ok (.lastore, 1) := by decide +kernel
theorem dX7_divide_27 : decode cX7_divide 27 = .ok (.aload_n 0, 1) := by decide +kernel
theorem dX7_divide_28 : decode cX7_divide 28 = .ok (.getfield 43, 3) := by decide +kernel
theorem dX7_divide_31 : decode cX7_divide 31 = .ok (.iload_n 2, 1) := by decide +kernel
theorem dX7_divide_32 : decode cX7_divide 32 = .ok (.aload_n 0, 1) := by decide +kernel
theorem dX7_divide_33 : decode cX7_divide 33 = .ok (.getfield 24, 3) := by decide +kernel
theorem dX7_divide_36 : decode cX7_divide 36 = .ok (.bipush 6, 2) := by decide +kernel
theorem dX7_divide_38 : decode cX7_divide 38 = .ok (.iload_n 1, 1) := by decide +kernel
theorem dX7_divide_39 : decode cX7_divide 39 = .ok (.imul, 1) := by decide +kernel
theorem dX7_divide_40 : decode cX7_divide 40 = .ok (.laload, 1) := by decide +kernel
theorem dX7_divide_41 : decode cX7_divide 41 = .ok (.lastore, 1) := by decide +kernel
theorem dX7_divide_42 : decode cX7_divide 42 = .ok (.aload_n 0, 1) := by decide +kernel
theorem dX7_divide_43 : decode cX7_divide 43 = .ok (.getfield 33, 3) := by decide +kernel
theorem dX7_divide_46 : decode cX7_divide 46 = .ok (.iload_n 1, 1) := by decide +kernel
theorem dX7_divide_47 : decode cX7_divide 47 = .ok (.iconst 0, 1) := by decide +kernel
theorem dX7_divide_48 : decode cX7_divide 48 = .ok (.bastore, 1) := by decide +kernel
theorem dX7_divide_49 : decode cX7_divide 49 = .ok (.aload_n 0, 1) := by decide +kernel
theorem dX7_divide_50 : decode cX7_divide 50 = .ok (.getfield 52, 3) := by decide +kernel
theorem dX7_divide_53 : decode cX7_divide 53 = .ok (.iload_n 2, 1) := by decide +kernel
theorem dX7_divide_54 : decode cX7_divide 54 = .ok (.iconst 0, 1) := by decide +kernel
theorem dX7_divide_55 : decode cX7_divide 55 = .ok (.iastore, 1) := by decide +kernel
theorem dX7_divide_56 : decode cX7_divide 56 = .ok (.iconst 0, 1) := by decide +kernel
theorem dX7_divide_57 : decode cX7_divide 57 = .ok (.istore_n 3, 1) := by decide +kernel
theorem dX7_divide_58 : decode cX7_divide 58 = .ok (.iload_n 3, 1) := by decide +kernel
theorem dX7_divide_59 : decode cX7_divide 59 = .ok (.iconst 5, 1) := by decide +kernel
theorem dX7_divide_60 : decode cX7_divide 60 = .ok (.if_icmp .ge 40, 3) := by decide +kernel
theorem dX7_divide_63 : decode cX7_divide 63 = .ok (.aload_n 0, 1) := by decide +kernel
theorem dX7_divide_64 : decode cX7_divide 64 = .ok (.getfield 46, 3) := by decide +kernel
theorem dX7_divide_67 : decode cX7_divide 67 = .ok (.iconst 5, 1) := by decide +kernel
theorem dX7_divide_68 : decode cX7_divide 68 = .ok (.iload_n 2, 1) := by decide +kernel
theorem dX7_divide_69 : decode cX7_divide 69 = .ok (.imul, 1) := by decide +kernel
theorem dX7_divide_70 : decode cX7_divide 70 = .ok (.iload_n 3, 1) := by decide +kernel
theorem dX7_divide_71 : decode cX7_divide 71 = .ok (.iadd, 1) := by decide +kernel
theorem dX7_divide_72 : decode cX7_divide 72 = .ok (.iload_n 3, 1) := by decide +kernel
theorem dX7_divide_73 : decode cX7_divide 73 = .ok (.iload_n 1, 1) := by decide +kernel
theorem dX7_divide_74 : decode cX7_divide 74 = .ok (.if_icmp .ne 7, 3) := by decide +kernel
theorem dX7_divide_77 : decode cX7_divide 77 = .ok (.lconst 1, 1) := by decide +kernel
theorem dX7_divide_78 : decode cX7_divide 78 = .ok (.goto 4, 3) := by decide +kernel
theorem dX7_divide_81 : decode cX7_divide 81 = .ok (.lconst 0, 1) := by decide +kernel
theorem dX7_divide_82 : decode cX7_divide 82 = .ok (.lastore, 1) := by decide +kernel
theorem dX7_divide_83 : decode cX7_divide 83 = .ok (.aload_n 0, 1) := by decide +kernel
theorem dX7_divide_84 : decode cX7_divide 84 = .ok (.getfield 49, 3) := by decide +kernel
theorem dX7_divide_87 : decode cX7_divide 87 = .ok (.iconst 5, 1) := by decide +kernel
theorem dX7_divide_88 : decode cX7_divide 88 = .ok (.iload_n 2, 1) := by decide +kernel
theorem dX7_divide_89 : decode cX7_divide 89 = .ok (.imul, 1) := by decide +kernel
theorem dX7_divide_90 : decode cX7_divide 90 = .ok (.iload_n 3, 1) := by decide +kernel
theorem dX7_divide_91 : decode cX7_divide 91 = .ok (.iadd, 1) := by decide +kernel
theorem dX7_divide_92 : decode cX7_divide 92 = .ok (.lconst 1, 1) := by decide +kernel
theorem dX7_divide_93 : decode cX7_divide 93 = .ok (.lastore, 1) := by decide +kernel
theorem dX7_divide_94 : decode cX7_divide 94 = .ok (.iinc 3 1, 3) := by decide +kernel
theorem dX7_divide_97 : decode cX7_divide 97 = .ok (.goto (-39), 3) := by decide +kernel
theorem dX7_divide_100 : decode cX7_divide 100 = .ok (.iconst 0, 1) := by decide +kernel
theorem dX7_divide_101 : decode cX7_divide 101 = .ok (.istore_n 3, 1) := by decide +kernel
theorem dX7_divide_102 : decode cX7_divide 102 = .ok (.iload_n 3, 1) := by decide +kernel
theorem dX7_divide_103 : decode cX7_divide 103 = .ok (.aload_n 0, 1) := by decide +kernel
theorem dX7_divide_104 : decode cX7_divide 104 = .ok (.getfield 7, 3) := by decide +kernel
theorem dX7_divide_107 : decode cX7_divide 107 = .ok (.if_icmp .gt 114, 3) := by decide +kernel
theorem dX7_divide_110 : decode cX7_divide 110 = .ok (.aload_n 0, 1) := by decide +kernel
theorem dX7_divide_111 : decode cX7_divide 111 = .ok (.invokevirtual 154, 3) := by decide +kernel
theorem dX7_divide_114 : decode cX7_divide 114 = .ok (.ifCond .ne 107, 3) := by decide +kernel
theorem dX7_divide_117 : decode cX7_divide 117 = .ok (.aload_n 0, 1) := by decide +kernel
theorem dX7_divide_118 : decode cX7_divide 118 = .ok (.iload_n 3, 1) := by decide +kernel
theorem dX7_divide_119 : decode cX7_divide 119 = .ok (.invokevirtual 171, 3) := by decide +kernel
theorem dX7_divide_122 : decode cX7_divide 122 = .ok (.istore 4, 2) := by decide +kernel
theorem dX7_divide_124 : decode cX7_divide 124 = .ok (.aload_n 0, 1) := by decide +kernel
theorem dX7_divide_125 : decode cX7_divide 125 = .ok (.getfield 33, 3) := by decide +kernel
theorem dX7_divide_128 : decode cX7_divide 128 = .ok (.iload 4, 2) := by decide +kernel
theorem dX7_divide_130 : decode cX7_divide 130 = .ok (.baload, 1) := by decide +kernel
theorem dX7_divide_131 : decode cX7_divide 131 = .ok (.ifCond .eq 84, 3) := by decide +kernel
theorem dX7_divide_134 : decode cX7_divide 134 = .ok (.aload_n 0, 1) := by decide +kernel
theorem dX7_divide_135 : decode cX7_divide 135 = .ok (.getfield 52, 3) := by decide +kernel
theorem dX7_divide_138 : decode cX7_divide 138 = .ok (.iload_n 2, 1) := by decide +kernel
theorem dX7_divide_139 : decode cX7_divide 139 = .ok (.dup2, 1) := by decide +kernel
theorem dX7_divide_140 : decode cX7_divide 140 = .ok (.iaload, 1) := by decide +kernel
theorem dX7_divide_141 : decode cX7_divide 141 = .ok (.iconst 1, 1) := by decide +kernel
theorem dX7_divide_142 : decode cX7_divide 142 = .ok (.iload 4, 2) := by decide +kernel
theorem dX7_divide_144 : decode cX7_divide 144 = .ok (.ishl, 1) := by decide +kernel
theorem dX7_divide_145 : decode cX7_divide 145 = .ok (.ior, 1) := by decide +kernel
theorem dX7_divide_146 : decode cX7_divide 146 = .ok (.iastore, 1) := by decide +kernel
theorem dX7_divide_147 : decode cX7_divide 147 = .ok (.aload_n 0, 1) := by decide +kernel
theorem dX7_divide_148 : decode cX7_divide 148 = .ok (.aload_n 0, 1) := by decide +kernel
theorem dX7_divide_149 : decode cX7_divide 149 = .ok (.getfield 20, 3) := by decide +kernel
theorem dX7_divide_152 : decode cX7_divide 152 = .ok (.iconst 5, 1) := by decide +kernel
theorem dX7_divide_153 : decode cX7_divide 153 = .ok (.iload_n 1, 1) := by decide +kernel
theorem dX7_divide_154 : decode cX7_divide 154 = .ok (.imul, 1) := by decide +kernel
theorem dX7_divide_155 : decode cX7_divide 155 = .ok (.iload 4, 2) := by decide +kernel
theorem dX7_divide_157 : decode cX7_divide 157 = .ok (.iadd, 1) := by decide +kernel
theorem dX7_divide_158 : decode cX7_divide 158 = .ok (.laload, 1) := by decide +kernel
theorem dX7_divide_159 : decode cX7_divide 159 = .ok (.aload_n 0, 1) := by decide +kernel
theorem dX7_divide_160 : decode cX7_divide 160 = .ok (.getfield 24, 3) := by decide +kernel
theorem dX7_divide_163 : decode cX7_divide 163 = .ok (.iconst 5, 1) := by decide +kernel
theorem dX7_divide_164 : decode cX7_divide 164 = .ok (.iload_n 1, 1) := by decide +kernel
theorem dX7_divide_165 : decode cX7_divide 165 = .ok (.imul, 1) := by decide +kernel
theorem dX7_divide_166 : decode cX7_divide 166 = .ok (.iload 4, 2) := by decide +kernel
theorem dX7_divide_168 : decode cX7_divide 168 = .ok (.iadd, 1) := by decide +kernel
theorem dX7_divide_169 : decode cX7_divide 169 = .ok (.laload, 1) := by decide +kernel
theorem dX7_divide_170 : decode cX7_divide 170 = .ok (.aload_n 0, 1) := by decide +kernel
theorem dX7_divide_171 : decode cX7_divide 171 = .ok (.getfield 40, 3) := by decide +kernel
theorem dX7_divide_174 : decode cX7_divide 174 = .ok (.iload_n 2, 1) := by decide +kernel
theorem dX7_divide_175 : decode cX7_divide 175 = .ok (.laload, 1) := by decide +kernel
theorem dX7_divide_176 : decode cX7_divide 176 = .ok (.aload_n 0, 1) := by decide +kernel
theorem dX7_divide_177 : decode cX7_divide 177 = .ok (.getfield 43, 3) := by decide +kernel
theorem dX7_divide_180 : decode cX7_divide 180 = .ok (.iload_n 2, 1) := by decide +kernel
theorem dX7_divide_181 : decode cX7_divide 181 = .ok (.laload, 1) := by decide +kernel
theorem dX7_divide_182 : decode cX7_divide 182 = .ok (.invokevirtual 175, 3) := by decide +kernel
theorem dX7_divide_185 : decode cX7_divide 185 = .ok (.aload_n 0, 1) := by decide +kernel
theorem dX7_divide_186 : decode cX7_divide 186 = .ok (.getfield 46, 3) := by decide +kernel
theorem dX7_divide_189 : decode cX7_divide 189 = .ok (.iconst 5, 1) := by decide +kernel
theorem dX7_divide_190 : decode cX7_divide 190 = .ok (.iload_n 2, 1) := by decide +kernel
theorem dX7_divide_191 : decode cX7_divide 191 = .ok (.imul, 1) := by decide +kernel
theorem dX7_divide_192 : decode cX7_divide 192 = .ok (.iload 4, 2) := by decide +kernel
theorem dX7_divide_194 : decode cX7_divide 194 = .ok (.iadd, 1) := by decide +kernel
theorem dX7_divide_195 : decode cX7_divide 195 = .ok (.aload_n 0, 1) := by decide +kernel
theorem dX7_divide_196 : decode cX7_divide 196 = .ok (.getfield 147, 3) := by decide +kernel
theorem dX7_divide_199 : decode cX7_divide 199 = .ok (.lastore, 1) := by decide +kernel
theorem dX7_divide_200 : decode cX7_divide 200 = .ok (.aload_n 0, 1) := by decide +kernel
theorem dX7_divide_201 : decode cX7_divide 201 = .ok (.getfield 49, 3) := by decide +kernel
theorem dX7_divide_204 : decode cX7_divide 204 = .ok (.iconst 5, 1) := by decide +kernel
theorem dX7_divide_205 : decode cX7_divide 205 = .ok (.iload_n 2, 1) := by decide +kernel
theorem dX7_divide_206 : decode cX7_divide 206 = .ok (.imul, 1) := by decide +kernel
theorem dX7_divide_207 : decode cX7_divide 207 = .ok (.iload 4, 2) := by decide +kernel
theorem dX7_divide_209 : decode cX7_divide 209 = .ok (.iadd, 1) := by decide +kernel
theorem dX7_divide_210 : decode cX7_divide 210 = .ok (.aload_n 0, 1) := by decide +kernel
theorem dX7_divide_211 : decode cX7_divide 211 = .ok (.getfield 151, 3) := by decide +kernel
theorem dX7_divide_214 : decode cX7_divide 214 = .ok (.lastore, 1) := by decide +kernel
theorem dX7_divide_215 : decode cX7_divide 215 = .ok (.iinc 3 1, 3) := by decide +kernel
theorem dX7_divide_218 : decode cX7_divide 218 = .ok (.goto (-116), 3) := by decide +kernel
theorem dX7_divide_221 : decode cX7_divide 221 = .ok (.iconst 0, 1) := by decide +kernel
theorem dX7_divide_222 : decode cX7_divide 222 = .ok (.istore_n 3, 1) := by decide +kernel
theorem dX7_divide_223 : decode cX7_divide 223 = .ok (.iload_n 3, 1) := by decide +kernel
theorem dX7_divide_224 : decode cX7_divide 224 = .ok (.aload_n 0, 1) := by decide +kernel
theorem dX7_divide_225 : decode cX7_divide 225 = .ok (.getfield 7, 3) := by decide +kernel
theorem dX7_divide_228 : decode cX7_divide 228 = .ok (.if_icmp .gt 168, 3) := by decide +kernel
theorem dX7_divide_231 : decode cX7_divide 231 = .ok (.aload_n 0, 1) := by decide +kernel
theorem dX7_divide_232 : decode cX7_divide 232 = .ok (.invokevirtual 154, 3) := by decide +kernel
theorem dX7_divide_235 : decode cX7_divide 235 = .ok (.ifCond .ne 161, 3) := by decide +kernel
theorem dX7_divide_238 : decode cX7_divide 238 = .ok (.iload_n 3, 1) := by decide +kernel
theorem dX7_divide_239 : decode cX7_divide 239 = .ok (.istore 4, 2) := by decide +kernel
theorem dX7_divide_241 : decode cX7_divide 241 = .ok (.iload 4, 2) := by decide +kernel
theorem dX7_divide_243 : decode cX7_divide 243 = .ok (.aload_n 0, 1) := by decide +kernel
theorem dX7_divide_244 : decode cX7_divide 244 = .ok (.getfield 7, 3) := by decide +kernel
theorem dX7_divide_247 : decode cX7_divide 247 = .ok (.if_icmp .gt 143, 3) := by decide +kernel
theorem dX7_divide_250 : decode cX7_divide 250 = .ok (.aload_n 0, 1) := by decide +kernel
theorem dX7_divide_251 : decode cX7_divide 251 = .ok (.invokevirtual 154, 3) := by decide +kernel
theorem dX7_divide_254 : decode cX7_divide 254 = .ok (.ifCond .ne 136, 3) := by decide +kernel
theorem dX7_divide_257 : decode cX7_divide 257 = .ok (.aload_n 0, 1) := by decide +kernel
theorem dX7_divide_258 : decode cX7_divide 258 = .ok (.iload_n 3, 1) := by decide +kernel
theorem dX7_divide_259 : decode cX7_divide 259 = .ok (.invokevirtual 171, 3) := by decide +kernel
theorem dX7_divide_262 : decode cX7_divide 262 = .ok (.istore 5, 2) := by decide +kernel
theorem dX7_divide_264 : decode cX7_divide 264 = .ok (.aload_n 0, 1) := by decide +kernel
theorem dX7_divide_265 : decode cX7_divide 265 = .ok (.iload 4, 2) := by decide +kernel
theorem dX7_divide_267 : decode cX7_divide 267 = .ok (.invokevirtual 171, 3) := by decide +kernel
theorem dX7_divide_270 : decode cX7_divide 270 = .ok (.istore 6, 2) := by decide +kernel
theorem dX7_divide_272 : decode cX7_divide 272 = .ok (.aload_n 0, 1) := by decide +kernel
theorem dX7_divide_273 : decode cX7_divide 273 = .ok (.getfield 33, 3) := by decide +kernel
theorem dX7_divide_276 : decode cX7_divide 276 = .ok (.iload 5, 2) := by decide +kernel
theorem dX7_divide_278 : decode cX7_divide 278 = .ok (.baload, 1) := by decide +kernel
theorem dX7_divide_279 : decode cX7_divide 279 = .ok (.ifCond .eq 105, 3) := by decide +kernel
theorem dX7_divide_282 : decode cX7_divide 282 = .ok (.aload_n 0, 1) := by decide +kernel
theorem dX7_divide_283 : decode cX7_divide 283 = .ok (.getfield 33, 3) := by decide +kernel
theorem dX7_divide_286 : decode cX7_divide 286 = .ok (.iload 6, 2) := by decide +kernel
theorem dX7_divide_288 : decode cX7_divide 288 = .ok (.baload, 1) := by decide +kernel
theorem dX7_divide_289 : decode cX7_divide 289 = .ok (.ifCond .eq 95, 3) := by decide +kernel
theorem dX7_divide_292 : decode cX7_divide 292 = .ok (.aload_n 0, 1) := by decide +kernel
theorem dX7_divide_293 : decode cX7_divide 293 = .ok (.aload_n 0, 1) := by decide +kernel
theorem dX7_divide_294 : decode cX7_divide 294 = .ok (.getfield 20, 3) := by decide +kernel
theorem dX7_divide_297 : decode cX7_divide 297 = .ok (.iconst 5, 1) := by decide +kernel
theorem dX7_divide_298 : decode cX7_divide 298 = .ok (.iload 5, 2) := by decide +kernel
theorem dX7_divide_300 : decode cX7_divide 300 = .ok (.imul, 1) := by decide +kernel
theorem dX7_divide_301 : decode cX7_divide 301 = .ok (.iload_n 1, 1) := by decide +kernel
theorem dX7_divide_302 : decode cX7_divide 302 = .ok (.iadd, 1) := by decide +kernel
theorem dX7_divide_303 : decode cX7_divide 303 = .ok (.laload, 1) := by decide +kernel
theorem dX7_divide_304 : decode cX7_divide 304 = .ok (.aload_n 0, 1) := by decide +kernel
theorem dX7_divide_305 : decode cX7_divide 305 = .ok (.getfield 24, 3) := by decide +kernel
theorem dX7_divide_308 : decode cX7_divide 308 = .ok (.iconst 5, 1) := by decide +kernel
theorem dX7_divide_309 : decode cX7_divide 309 = .ok (.iload 5, 2) := by decide +kernel
theorem dX7_divide_311 : decode cX7_divide 311 = .ok (.imul, 1) := by decide +kernel
theorem dX7_divide_312 : decode cX7_divide 312 = .ok (.iload_n 1, 1) := by decide +kernel
theorem dX7_divide_313 : decode cX7_divide 313 = .ok (.iadd, 1) := by decide +kernel
theorem dX7_divide_314 : decode cX7_divide 314 = .ok (.laload, 1) := by decide +kernel
theorem dX7_divide_315 : decode cX7_divide 315 = .ok (.aload_n 0, 1) := by decide +kernel
theorem dX7_divide_316 : decode cX7_divide 316 = .ok (.getfield 46, 3) := by decide +kernel
theorem dX7_divide_319 : decode cX7_divide 319 = .ok (.iconst 5, 1) := by decide +kernel
theorem dX7_divide_320 : decode cX7_divide 320 = .ok (.iload_n 2, 1) := by decide +kernel
theorem dX7_divide_321 : decode cX7_divide 321 = .ok (.imul, 1) := by decide +kernel
theorem dX7_divide_322 : decode cX7_divide 322 = .ok (.iload 6, 2) := by decide +kernel
theorem dX7_divide_324 : decode cX7_divide 324 = .ok (.iadd, 1) := by decide +kernel
theorem dX7_divide_325 : decode cX7_divide 325 = .ok (.laload, 1) := by decide +kernel
theorem dX7_divide_326 : decode cX7_divide 326 = .ok (.aload_n 0, 1) := by decide +kernel
theorem dX7_divide_327 : decode cX7_divide 327 = .ok (.getfield 49, 3) := by decide +kernel
theorem dX7_divide_330 : decode cX7_divide 330 = .ok (.iconst 5, 1) := by decide +kernel
theorem dX7_divide_331 : decode cX7_divide 331 = .ok (.iload_n 2, 1) := by decide +kernel
theorem dX7_divide_332 : decode cX7_divide 332 = .ok (.imul, 1) := by decide +kernel
theorem dX7_divide_333 : decode cX7_divide 333 = .ok (.iload 6, 2) := by decide +kernel
theorem dX7_divide_335 : decode cX7_divide 335 = .ok (.iadd, 1) := by decide +kernel
theorem dX7_divide_336 : decode cX7_divide 336 = .ok (.laload, 1) := by decide +kernel
theorem dX7_divide_337 : decode cX7_divide 337 = .ok (.invokevirtual 179, 3) := by decide +kernel
theorem dX7_divide_340 : decode cX7_divide 340 = .ok (.aload_n 0, 1) := by decide +kernel
theorem dX7_divide_341 : decode cX7_divide 341 = .ok (.aload_n 0, 1) := by decide +kernel
theorem dX7_divide_342 : decode cX7_divide 342 = .ok (.getfield 20, 3) := by decide +kernel
theorem dX7_divide_345 : decode cX7_divide 345 = .ok (.iconst 5, 1) := by decide +kernel
theorem dX7_divide_346 : decode cX7_divide 346 = .ok (.iload 5, 2) := by decide +kernel
theorem dX7_divide_348 : decode cX7_divide 348 = .ok (.imul, 1) := by decide +kernel
theorem dX7_divide_349 : decode cX7_divide 349 = .ok (.iload 6, 2) := by decide +kernel
theorem dX7_divide_351 : decode cX7_divide 351 = .ok (.iadd, 1) := by decide +kernel
theorem dX7_divide_352 : decode cX7_divide 352 = .ok (.laload, 1) := by decide +kernel
theorem dX7_divide_353 : decode cX7_divide 353 = .ok (.aload_n 0, 1) := by decide +kernel
theorem dX7_divide_354 : decode cX7_divide 354 = .ok (.getfield 24, 3) := by decide +kernel
theorem dX7_divide_357 : decode cX7_divide 357 = .ok (.iconst 5, 1) := by decide +kernel
theorem dX7_divide_358 : decode cX7_divide 358 = .ok (.iload 5, 2) := by decide +kernel
theorem dX7_divide_360 : decode cX7_divide 360 = .ok (.imul, 1) := by decide +kernel
theorem dX7_divide_361 : decode cX7_divide 361 = .ok (.iload 6, 2) := by decide +kernel
theorem dX7_divide_363 : decode cX7_divide 363 = .ok (.iadd, 1) := by decide +kernel
theorem dX7_divide_364 : decode cX7_divide 364 = .ok (.laload, 1) := by decide +kernel
theorem dX7_divide_365 : decode cX7_divide 365 = .ok (.aload_n 0, 1) := by decide +kernel
theorem dX7_divide_366 : decode cX7_divide 366 = .ok (.getfield 147, 3) := by decide +kernel
theorem dX7_divide_369 : decode cX7_divide 369 = .ok (.aload_n 0, 1) := by decide +kernel
theorem dX7_divide_370 : decode cX7_divide 370 = .ok (.getfield 151, 3) := by decide +kernel
theorem dX7_divide_373 : decode cX7_divide 373 = .ok (.invokevirtual 182, 3) := by decide +kernel
theorem dX7_divide_376 : decode cX7_divide 376 = .ok (.aload_n 0, 1) := by decide +kernel
theorem dX7_divide_377 : decode cX7_divide 377 = .ok (.iload 5, 2) := by decide +kernel
theorem dX7_divide_379 : decode cX7_divide 379 = .ok (.iload 6, 2) := by decide +kernel
theorem dX7_divide_381 : decode cX7_divide 381 = .ok (.invokevirtual 185, 3) := by decide +kernel
theorem dX7_divide_384 : decode cX7_divide 384 = .ok (.iinc 4 1, 3) := by decide +kernel
theorem dX7_divide_387 : decode cX7_divide 387 = .ok (.goto (-146), 3) := by decide +kernel
theorem dX7_divide_390 : decode cX7_divide 390 = .ok (.iinc 3 1, 3) := by decide +kernel
theorem dX7_divide_393 : decode cX7_divide 393 = .ok (.goto (-170), 3) := by decide +kernel
theorem dX7_divide_396 : decode cX7_divide 396 = .ok (.aload_n 0, 1) := by decide +kernel
theorem dX7_divide_397 : decode cX7_divide 397 = .ok (.dup, 1) := by decide +kernel
theorem dX7_divide_398 : decode cX7_divide 398 = .ok (.getfield 109, 3) := by decide +kernel
theorem dX7_divide_401 : decode cX7_divide 401 = .ok (.iconst 1, 1) := by decide +kernel
theorem dX7_divide_402 : decode cX7_divide 402 = .ok (.iadd, 1) := by decide +kernel
theorem dX7_divide_403 : decode cX7_divide 403 = .ok (.putfield 109, 3) := by decide +kernel
theorem dX7_divide_406 : decode cX7_divide 406 = .ok (.return_, 1) := by decide +kernel
theorem dX7_firstDiagonal_0 : decode cX7_firstDiagonal 0 = .ok (.iconst (-1), 1) := by decide +kernel
theorem dX7_firstDiagonal_1 : decode cX7_firstDiagonal 1 = .ok (.istore_n 2, 1) := by decide +kernel
theorem dX7_firstDiagonal_2 : decode cX7_firstDiagonal 2 = .ok (.aload_n 0, 1) := by decide +kernel
theorem dX7_firstDiagonal_3 : decode cX7_firstDiagonal 3 = .ok (.getfield 7, 3) := by decide +kernel
theorem dX7_firstDiagonal_6 : decode cX7_firstDiagonal 6 = .ok (.istore_n 3, 1) := by decide +kernel
theorem dX7_firstDiagonal_7 : decode cX7_firstDiagonal 7 = .ok (.iload_n 3, 1) := by decide +kernel
theorem dX7_firstDiagonal_8 : decode cX7_firstDiagonal 8 = .ok (.ifCond .lt 87, 3) := by decide +kernel
theorem dX7_firstDiagonal_11 : decode cX7_firstDiagonal 11 = .ok (.aload_n 0, 1) := by decide +kernel
theorem dX7_firstDiagonal_12 : decode cX7_firstDiagonal 12 = .ok (.iload_n 3, 1) := by decide +kernel
theorem dX7_firstDiagonal_13 : decode cX7_firstDiagonal 13 = .ok (.invokevirtual 171, 3) := by decide +kernel
theorem dX7_firstDiagonal_16 : decode cX7_firstDiagonal 16 = .ok (.istore 4, 2) := by decide +kernel
theorem dX7_firstDiagonal_18 : decode cX7_firstDiagonal 18 = .ok (.iload_n 1, 1) := by decide +kernel
theorem dX7_firstDiagonal_19 : decode cX7_firstDiagonal 19 = .ok (.ifCond .eq 26, 3) := by decide +kernel
theorem dX7_firstDiagonal_22 : decode cX7_firstDiagonal 22 = .ok (.aload_n 0, 1) := by decide +kernel
theorem dX7_firstDiagonal_23 : decode cX7_firstDiagonal 23 = .ok (.getfield 20, 3) := by decide +kernel
theorem dX7_firstDiagonal_26 : decode cX7_firstDiagonal 26 = .ok (.bipush 6, 2) := by decide +kernel
theorem dX7_firstDiagonal_28 : decode cX7_firstDiagonal 28 = .ok (.iload 4, 2) := by decide +kernel
theorem dX7_firstDiagonal_30 : decode cX7_firstDiagonal 30 = .ok (.imul, 1) := by decide +kernel
theorem dX7_firstDiagonal_31 : decode cX7_firstDiagonal 31 = .ok (.laload, 1) := by decide +kernel
theorem dX7_firstDiagonal_32 : decode cX7_firstDiagonal 32 = .ok (.lconst 0, 1) := by decide +kernel
theorem dX7_firstDiagonal_33 : decode cX7_firstDiagonal 33 = .ok (.lcmp, 1) := by decide +kernel
theorem dX7_firstDiagonal_34 : decode cX7_firstDiagonal 34 = .ok (.ifCond .ge 7, 3) := by decide +kernel
theorem dX7_firstDiagonal_37 : decode cX7_firstDiagonal 37 = .ok (.iconst 1, 1) := by decide +kernel
theorem dX7_firstDiagonal_38 : decode cX7_firstDiagonal 38 = .ok (.goto 27, 3) := by decide +kernel
theorem dX7_firstDiagonal_41 : decode cX7_firstDiagonal 41 = .ok (.iconst 0, 1) := by decide +kernel
theorem dX7_firstDiagonal_42 : decode cX7_firstDiagonal 42 = .ok (.goto 23, 3) := by decide +kernel
theorem dX7_firstDiagonal_45 : decode cX7_firstDiagonal 45 = .ok (.aload_n 0, 1) := by decide +kernel
theorem dX7_firstDiagonal_46 : decode cX7_firstDiagonal 46 = .ok (.getfield 20, 3) := by decide +kernel
theorem dX7_firstDiagonal_49 : decode cX7_firstDiagonal 49 = .ok (.bipush 6, 2) := by decide +kernel
theorem dX7_firstDiagonal_51 : decode cX7_firstDiagonal 51 = .ok (.iload 4, 2) := by decide +kernel
theorem dX7_firstDiagonal_53 : decode cX7_firstDiagonal 53 = .ok (.imul, 1) := by decide +kernel
theorem dX7_firstDiagonal_54 : decode cX7_firstDiagonal 54 = .ok (.laload, 1) := by decide +kernel
theorem dX7_firstDiagonal_55 : decode cX7_firstDiagonal 55 = .ok (.lconst 0, 1) := by decide +kernel
theorem dX7_firstDiagonal_56 : decode cX7_firstDiagonal 56 = .ok (.lcmp, 1) := by decide +kernel
theorem dX7_firstDiagonal_57 : decode cX7_firstDiagonal 57 = .ok (.ifCond .le 7, 3) := by decide +kernel
theorem dX7_firstDiagonal_60 : decode cX7_firstDiagonal 60 = .ok (.iconst 1, 1) := by decide +kernel
theorem dX7_firstDiagonal_61 : decode cX7_firstDiagonal 61 = .ok (.goto 4, 3) := by decide +kernel
theorem dX7_firstDiagonal_64 : decode cX7_firstDiagonal 64 = .ok (.iconst 0, 1) := by decide +kernel
theorem dX7_firstDiagonal_65 : decode cX7_firstDiagonal 65 = .ok (.istore 5, 2) := by decide +kernel
theorem dX7_firstDiagonal_67 : decode cX7_firstDiagonal 67 = .ok (.aload_n 0, 1) := by decide +kernel
theorem dX7_firstDiagonal_68 : decode cX7_firstDiagonal 68 = .ok (.getfield 33, 3) := by decide +kernel
theorem dX7_firstDiagonal_71 : decode cX7_firstDiagonal 71 = .ok (.iload 4, 2) := by decide +kernel
theorem dX7_firstDiagonal_73 : decode cX7_firstDiagonal 73 = .ok (.baload, 1) := by decide +kernel
theorem dX7_firstDiagonal_74 : decode cX7_firstDiagonal 74 = .ok (.ifCond .eq 13, 3) := by decide +kernel
theorem dX7_firstDiagonal_77 : decode cX7_firstDiagonal 77 = .ok (.iload 5, 2) := by decide +kernel
theorem dX7_firstDiagonal_79 : decode cX7_firstDiagonal 79 = .ok (.ifCond .eq 8, 3) := by decide +kernel
theorem dX7_firstDiagonal_82 : decode cX7_firstDiagonal 82 = .ok (.iload 4, 2) := by decide +kernel
theorem dX7_firstDiagonal_84 : decode cX7_firstDiagonal 84 = .ok (.goto 4, 3) := by decide +kernel
theorem dX7_firstDiagonal_87 : decode cX7_firstDiagonal 87 = .ok (.iload_n 2, 1) := by decide +kernel
theorem dX7_firstDiagonal_88 : decode cX7_firstDiagonal 88 = .ok (.istore_n 2, 1) := by decide +kernel
theorem dX7_firstDiagonal_89 : decode cX7_firstDiagonal 89 = .ok (.iinc 3 (-1), 3) := by decide +kernel
theorem dX7_firstDiagonal_92 : decode cX7_firstDiagonal 92 = .ok (.goto (-85), 3) := by decide +kernel
theorem dX7_firstDiagonal_95 : decode cX7_firstDiagonal 95 = .ok (.iload_n 2, 1) := by decide +kernel
theorem dX7_firstDiagonal_96 : decode cX7_firstDiagonal 96 = .ok (.ireturn, 1) := by decide +kernel
theorem dX7_findPair_0 : decode cX7_findPair 0 = .ok (.aload_n 0, 1) := by decide +kernel
theorem dX7_findPair_1 : decode cX7_findPair 1 = .ok (.iconst (-1), 1) := by decide +kernel
theorem dX7_findPair_2 : decode cX7_findPair 2 = .ok (.putfield 189, 3) := by decide +kernel
theorem dX7_findPair_5 : decode cX7_findPair 5 = .ok (.iconst 0, 1) := by decide +kernel
theorem dX7_findPair_6 : decode cX7_findPair 6 = .ok (.istore_n 1, 1) := by decide +kernel
theorem dX7_findPair_7 : decode cX7_findPair 7 = .ok (.iload_n 1, 1) := by decide +kernel
theorem dX7_findPair_8 : decode cX7_findPair 8 = .ok (.aload_n 0, 1) := by decide +kernel
theorem dX7_findPair_9 : decode cX7_findPair 9 = .ok (.getfield 7, 3) := by decide +kernel
theorem dX7_findPair_12 : decode cX7_findPair 12 = .ok (.if_icmp .gt 100, 3) := by decide +kernel
theorem dX7_findPair_15 : decode cX7_findPair 15 = .ok (.aload_n 0, 1) := by decide +kernel
theorem dX7_findPair_16 : decode cX7_findPair 16 = .ok (.getfield 189, 3) := by decide +kernel
theorem dX7_findPair_19 : decode cX7_findPair 19 = .ok (.ifCond .ge 93, 3) := by decide +kernel
theorem dX7_findPair_22 : decode cX7_findPair 22 = .ok (.iload_n 1, 1) := by decide +kernel
theorem dX7_findPair_23 : decode cX7_findPair 23 = .ok (.iconst 1, 1) := by decide +kernel
theorem dX7_findPair_24 : decode cX7_findPair 24 = .ok (.iadd, 1) := by decide +kernel
theorem dX7_findPair_25 : decode cX7_findPair 25 = .ok (.istore_n 2, 1) := by decide +kernel
theorem dX7_findPair_26 : decode cX7_findPair 26 = .ok (.iload_n 2, 1) := by decide +kernel
theorem dX7_findPair_27 : decode cX7_findPair 27 = .ok (.aload_n 0, 1) := by decide +kernel
theorem dX7_findPair_28 : decode cX7_findPair 28 = .ok (.getfield 7, 3) := by decide +kernel
theorem dX7_findPair_31 : decode cX7_findPair 31 = .ok (.if_icmp .gt 75, 3) := by decide +kernel
theorem dX7_findPair_34 : decode cX7_findPair 34 = .ok (.aload_n 0, 1) := by decide +kernel
theorem dX7_findPair_35 : decode cX7_findPair 35 = .ok (.getfield 189, 3) := by decide +kernel
theorem dX7_findPair_38 : decode cX7_findPair 38 = .ok (.ifCond .ge 68, 3) := by decide +kernel
theorem dX7_findPair_41 : decode cX7_findPair 41 = .ok (.aload_n 0, 1) := by decide +kernel
theorem dX7_findPair_42 : decode cX7_findPair 42 = .ok (.iload_n 1, 1) := by decide +kernel
theorem dX7_findPair_43 : decode cX7_findPair 43 = .ok (.invokevirtual 171, 3) := by decide +kernel
theorem dX7_findPair_46 : decode cX7_findPair 46 = .ok (.istore_n 3, 1) := by decide +kernel
theorem dX7_findPair_47 : decode cX7_findPair 47 = .ok (.aload_n 0, 1) := by decide +kernel
theorem dX7_findPair_48 : decode cX7_findPair 48 = .ok (.iload_n 2, 1) := by decide +kernel
theorem dX7_findPair_49 : decode cX7_findPair 49 = .ok (.invokevirtual 171, 3) := by decide +kernel
theorem dX7_findPair_52 : decode cX7_findPair 52 = .ok (.istore 4, 2) := by decide +kernel
theorem dX7_findPair_54 : decode cX7_findPair 54 = .ok (.aload_n 0, 1) := by decide +kernel
theorem dX7_findPair_55 : decode cX7_findPair 55 = .ok (.getfield 33, 3) := by decide +kernel
theorem dX7_findPair_58 : decode cX7_findPair 58 = .ok (.iload_n 3, 1) := by decide +kernel
theorem dX7_findPair_59 : decode cX7_findPair 59 = .ok (.baload, 1) := by decide +kernel
theorem dX7_findPair_60 : decode cX7_findPair 60 = .ok (.ifCond .eq 40, 3) := by decide +kernel
theorem dX7_findPair_63 : decode cX7_findPair 63 = .ok (.aload_n 0, 1) := by decide +kernel
theorem dX7_findPair_64 : decode cX7_findPair 64 = .ok (.getfield 33, 3) := by decide +kernel
theorem dX7_findPair_67 : decode cX7_findPair 67 = .ok (.iload 4, 2) := by decide +kernel
theorem dX7_findPair_69 : decode cX7_findPair 69 = .ok (.baload, 1) := by decide +kernel
theorem dX7_findPair_70 : decode cX7_findPair 70 = .ok (.ifCond .eq 30, 3) := by decide +kernel
theorem dX7_findPair_73 : decode cX7_findPair 73 = .ok (.aload_n 0, 1) := by decide +kernel
theorem dX7_findPair_74 : decode cX7_findPair 74 = .ok (.getfield 20, 3) := by decide +kernel
theorem dX7_findPair_77 : decode cX7_findPair 77 = .ok (.iconst 5, 1) := by decide +kernel
theorem dX7_findPair_78 : decode cX7_findPair 78 = .ok (.iload_n 3, 1) := by decide +kernel
theorem dX7_findPair_79 : decode cX7_findPair 79 = .ok (.imul, 1) := by decide +kernel
theorem dX7_findPair_80 : decode cX7_findPair 80 = .ok (.iload 4, 2) := by decide +kernel
theorem dX7_findPair_82 : decode cX7_findPair 82 = .ok (.iadd, 1) := by decide +kernel
theorem dX7_findPair_83 : decode cX7_findPair 83 = .ok (.laload, 1) := by decide +kernel
theorem dX7_findPair_84 : decode cX7_findPair 84 = .ok (.lconst 0, 1) := by decide +kernel
theorem dX7_findPair_85 : decode cX7_findPair 85 = .ok (.lcmp, 1) := by decide +kernel
theorem dX7_findPair_86 : decode cX7_findPair 86 = .ok (.ifCond .eq 14, 3) := by decide +kernel
theorem dX7_findPair_89 : decode cX7_findPair 89 = .ok (.aload_n 0, 1) := by decide +kernel
theorem dX7_findPair_90 : decode cX7_findPair 90 = .ok (.iload_n 3, 1) := by decide +kernel
theorem dX7_findPair_91 : decode cX7_findPair 91 = .ok (.putfield 189, 3) := by decide +kernel
theorem dX7_findPair_94 : decode cX7_findPair 94 = .ok (.aload_n 0, 1) := by decide +kernel
theorem dX7_findPair_95 : decode cX7_findPair 95 = .ok (.iload 4, 2) := by decide +kernel
theorem dX7_findPair_97 : decode cX7_findPair 97 = .ok (.putfield 192, 3) := by decide +kernel
theorem dX7_findPair_100 : decode cX7_findPair 100 = .ok (.iinc 2 1, 3) := by decide +kernel
theorem dX7_findPair_103 : decode cX7_findPair 103 = .ok (.goto (-77), 3) := by decide +kernel
theorem dX7_findPair_106 : decode cX7_findPair 106 = .ok (.iinc 1 1, 3) := by decide +kernel
theorem dX7_findPair_109 : decode cX7_findPair 109 = .ok (.goto (-102), 3) := by decide +kernel
theorem dX7_findPair_112 : decode cX7_findPair 112 = .ok (.aload_n 0, 1) := by decide +kernel
theorem dX7_findPair_113 : decode cX7_findPair 113 = .ok (.getfield 189, 3) := by decide +kernel
theorem dX7_findPair_116 : decode cX7_findPair 116 = .ok (.ifCond .lt 7, 3) := by decide +kernel
theorem dX7_findPair_119 : decode cX7_findPair 119 = .ok (.iconst 1, 1) := by decide +kernel
theorem dX7_findPair_120 : decode cX7_findPair 120 = .ok (.goto 4, 3) := by decide +kernel
theorem dX7_findPair_123 : decode cX7_findPair 123 = .ok (.iconst 0, 1) := by decide +kernel
theorem dX7_findPair_124 : decode cX7_findPair 124 = .ok (.ireturn, 1) := by decide +kernel
theorem dX7_eliminate_0 : decode cX7_eliminate 0 = .ok (.aload_n 0, 1) := by decide +kernel
theorem dX7_eliminate_1 : decode cX7_eliminate 1 = .ok (.iconst 0, 1) := by decide +kernel
theorem dX7_eliminate_2 : decode cX7_eliminate 2 = .ok (.putfield 109, 3) := by decide +kernel
theorem dX7_eliminate_5 : decode cX7_eliminate 5 = .ok (.aload_n 0, 1) := by decide +kernel
theorem dX7_eliminate_6 : decode cX7_eliminate 6 = .ok (.invokevirtual 195, 3) := by decide +kernel
theorem dX7_eliminate_9 : decode cX7_eliminate 9 = .ok (.aload_n 0, 1) := by decide +kernel
theorem dX7_eliminate_10 : decode cX7_eliminate 10 = .ok (.aload_n 0, 1) := by decide +kernel
theorem dX7_eliminate_11 : decode cX7_eliminate 11 = .ok (.iconst 1, 1) := by decide +kernel
theorem dX7_eliminate_12 : decode cX7_eliminate 12 = .ok (.invokevirtual 198, 3) := by decide +kernel
theorem dX7_eliminate_15 : decode cX7_eliminate 15 = .ok (.putfield 202, 3) := by decide +kernel
theorem dX7_eliminate_18 : decode cX7_eliminate 18 = .ok (.aload_n 0, 1) := by decide +kernel
theorem dX7_eliminate_19 : decode cX7_eliminate 19 = .ok (.getfield 202, 3) := by decide +kernel
theorem dX7_eliminate_22 : decode cX7_eliminate 22 = .ok (.ifCond .lt 5, 3) := by decide +kernel
theorem dX7_eliminate_25 : decode cX7_eliminate 25 = .ok (.iconst 0, 1) := by decide +kernel
theorem dX7_eliminate_26 : decode cX7_eliminate 26 = .ok (.ireturn, 1) := by decide +kernel
theorem dX7_eliminate_27 : decode cX7_eliminate 27 = .ok (.aload_n 0, 1) := by decide +kernel
theorem dX7_eliminate_28 : decode cX7_eliminate 28 = .ok (.iconst 0, 1) := by decide +kernel
theorem dX7_eliminate_29 : decode cX7_eliminate 29 = .ok (.invokevirtual 198, 3) := by decide +kernel
theorem dX7_eliminate_32 : decode cX7_eliminate 32 = .ok (.istore_n 1, 1) := by decide +kernel
theorem dX7_eliminate_33 : decode cX7_eliminate 33 = .ok (.iload_n 1, 1) := by decide +kernel
theorem dX7_eliminate_34 : decode cX7_eliminate 34 = .ok (.ifCond .ge 16, 3) := by decide +kernel
theorem dX7_eliminate_37 : decode cX7_eliminate 37 = .ok (.aload_n 0, 1) := by decide +kernel
theorem dX7_eliminate_38 : decode cX7_eliminate 38 = .ok (.invokevirtual 205, 3) := by decide +kernel
theorem dX7_eliminate_41 : decode cX7_eliminate 41 = .ok (.ifCond .eq 7, 3) := by decide +kernel
theorem dX7_eliminate_44 : decode cX7_eliminate 44 = .ok (.iconst 0, 1) := by decide +kernel
theorem dX7_eliminate_45 : decode cX7_eliminate 45 = .ok (.goto 4, 3) := by decide +kernel
theorem dX7_eliminate_48 : decode cX7_eliminate 48 = .ok (.iconst 1, 1) := by decide +kernel
theorem dX7_eliminate_49 : decode cX7_eliminate 49 = .ok (.ireturn, 1) := by decide +kernel
theorem dX7_eliminate_50 : decode cX7_eliminate 50 = .ok (.aload_n 0, 1) := by decide +kernel
theorem dX7_eliminate_51 : decode cX7_eliminate 51 = .ok (.iload_n 1, 1) := by decide +kernel
theorem dX7_eliminate_52 : decode cX7_eliminate 52 = .ok (.invokevirtual 208, 3) := by decide +kernel
theorem dX7_eliminate_55 : decode cX7_eliminate 55 = .ok (.aload_n 0, 1) := by decide +kernel
theorem dX7_eliminate_56 : decode cX7_eliminate 56 = .ok (.invokevirtual 154, 3) := by decide +kernel
theorem dX7_eliminate_59 : decode cX7_eliminate 59 = .ok (.ifCond .eq 5, 3) := by decide +kernel
theorem dX7_eliminate_62 : decode cX7_eliminate 62 = .ok (.iconst 2, 1) := by decide +kernel
theorem dX7_eliminate_63 : decode cX7_eliminate 63 = .ok (.ireturn, 1) := by decide +kernel
theorem dX7_eliminate_64 : decode cX7_eliminate 64 = .ok (.goto (-55), 3) := by decide +kernel
theorem dX7_plain_0 : decode cX7_plain 0 = .ok (.aload_n 0, 1) := by decide +kernel
theorem dX7_plain_1 : decode cX7_plain 1 = .ok (.iload_n 1, 1) := by decide +kernel
theorem dX7_plain_2 : decode cX7_plain 2 = .ok (.invokevirtual 116, 3) := by decide +kernel
theorem dX7_plain_5 : decode cX7_plain 5 = .ok (.ifCond .ne 5, 3) := by decide +kernel
theorem dX7_plain_8 : decode cX7_plain 8 = .ok (.iconst (-1), 1) := by decide +kernel
theorem dX7_plain_9 : decode cX7_plain 9 = .ok (.ireturn, 1) := by decide +kernel
theorem dX7_plain_10 : decode cX7_plain 10 = .ok (.aload_n 0, 1) := by decide +kernel
theorem dX7_plain_11 : decode cX7_plain 11 = .ok (.invokevirtual 212, 3) := by decide +kernel
theorem dX7_plain_14 : decode cX7_plain 14 = .ok (.aload_n 0, 1) := by decide +kernel
theorem dX7_plain_15 : decode cX7_plain 15 = .ok (.iload_n 1, 1) := by decide +kernel
theorem dX7_plain_16 : decode cX7_plain 16 = .ok (.invokevirtual 215, 3) := by decide +kernel
theorem dX7_plain_19 : decode cX7_plain 19 = .ok (.aload_n 0, 1) := by decide +kernel
theorem dX7_plain_20 : decode cX7_plain 20 = .ok (.iconst 0, 1) := by decide +kernel
theorem dX7_plain_21 : decode cX7_plain 21 = .ok (.putfield 109, 3) := by decide +kernel
theorem dX7_plain_24 : decode cX7_plain 24 = .ok (.aload_n 0, 1) := by decide +kernel
theorem dX7_plain_25 : decode cX7_plain 25 = .ok (.invokevirtual 195, 3) := by decide +kernel
theorem dX7_plain_28 : decode cX7_plain 28 = .ok (.iconst 0, 1) := by decide +kernel
theorem dX7_plain_29 : decode cX7_plain 29 = .ok (.istore_n 2, 1) := by decide +kernel
theorem dX7_plain_30 : decode cX7_plain 30 = .ok (.iconst 0, 1) := by decide +kernel
theorem dX7_plain_31 : decode cX7_plain 31 = .ok (.istore_n 3, 1) := by decide +kernel
theorem dX7_plain_32 : decode cX7_plain 32 = .ok (.iconst 0, 1) := by decide +kernel
theorem dX7_plain_33 : decode cX7_plain 33 = .ok (.istore 4, 2) := by decide +kernel
theorem dX7_plain_35 : decode cX7_plain 35 = .ok (.iload 4, 2) := by decide +kernel
theorem dX7_plain_37 : decode cX7_plain 37 = .ok (.aload_n 0, 1) := by decide +kernel
theorem dX7_plain_38 : decode cX7_plain 38 = .ok (.getfield 7, 3) := by decide +kernel
theorem dX7_plain_41 : decode cX7_plain 41 = .ok (.if_icmp .gt 88, 3) := by decide +kernel
theorem dX7_plain_44 : decode cX7_plain 44 = .ok (.iload_n 3, 1) := by decide +kernel
theorem dX7_plain_45 : decode cX7_plain 45 = .ok (.ifCond .ne 84, 3) := by decide +kernel
theorem dX7_plain_48 : decode cX7_plain 48 = .ok (.aload_n 0, 1) := by decide +kernel
theorem dX7_plain_49 : decode cX7_plain 49 = .ok (.iload 4, 2) := by decide +kernel
theorem dX7_plain_51 : decode cX7_plain 51 = .ok (.invokevirtual 171, 3) := by decide +kernel
theorem dX7_plain_54 : decode cX7_plain 54 = .ok (.istore 5, 2) := by decide +kernel
theorem dX7_plain_56 : decode cX7_plain 56 = .ok (.iload_n 2, 1) := by decide +kernel
theorem dX7_plain_57 : decode cX7_plain 57 = .ok (.aload_n 0, 1) := by decide +kernel
theorem dX7_plain_58 : decode cX7_plain 58 = .ok (.getfield 20, 3) := by decide +kernel
theorem dX7_plain_61 : decode cX7_plain 61 = .ok (.bipush 6, 2) := by decide +kernel
theorem dX7_plain_63 : decode cX7_plain 63 = .ok (.iload 5, 2) := by decide +kernel
theorem dX7_plain_65 : decode cX7_plain 65 = .ok (.imul, 1) := by decide +kernel
theorem dX7_plain_66 : decode cX7_plain 66 = .ok (.laload, 1) := by decide +kernel
theorem dX7_plain_67 : decode cX7_plain 67 = .ok (.lconst 0, 1) := by decide +kernel
theorem dX7_plain_68 : decode cX7_plain 68 = .ok (.lcmp, 1) := by decide +kernel
theorem dX7_plain_69 : decode cX7_plain 69 = .ok (.ifCond .le 7, 3) := by decide +kernel
theorem dX7_plain_72 : decode cX7_plain 72 = .ok (.iconst 1, 1) := by decide +kernel
theorem dX7_plain_73 : decode cX7_plain 73 = .ok (.goto 4, 3) := by decide +kernel
theorem dX7_plain_76 : decode cX7_plain 76 = .ok (.iconst 0, 1) := by decide +kernel
theorem dX7_plain_77 : decode cX7_plain 77 = .ok (.iadd, 1) := by decide +kernel
theorem dX7_plain_78 : decode cX7_plain 78 = .ok (.istore_n 2, 1) := by decide +kernel
theorem dX7_plain_79 : decode cX7_plain 79 = .ok (.aload_n 0, 1) := by decide +kernel
theorem dX7_plain_80 : decode cX7_plain 80 = .ok (.getfield 20, 3) := by decide +kernel
theorem dX7_plain_83 : decode cX7_plain 83 = .ok (.bipush 6, 2) := by decide +kernel
theorem dX7_plain_85 : decode cX7_plain 85 = .ok (.iload 5, 2) := by decide +kernel
theorem dX7_plain_87 : decode cX7_plain 87 = .ok (.imul, 1) := by decide +kernel
theorem dX7_plain_88 : decode cX7_plain 88 = .ok (.laload, 1) := by decide +kernel
theorem dX7_plain_89 : decode cX7_plain 89 = .ok (.lconst 0, 1) := by decide +kernel
theorem dX7_plain_90 : decode cX7_plain 90 = .ok (.lcmp, 1) := by decide +kernel
theorem dX7_plain_91 : decode cX7_plain 91 = .ok (.ifCond .ne 12, 3) := by decide +kernel
theorem dX7_plain_94 : decode cX7_plain 94 = .ok (.bipush (-10), 2) := by decide +kernel
theorem dX7_plain_96 : decode cX7_plain 96 = .ok (.iload 4, 2) := by decide +kernel
theorem dX7_plain_98 : decode cX7_plain 98 = .ok (.isub, 1) := by decide +kernel
theorem dX7_plain_99 : decode cX7_plain 99 = .ok (.istore_n 3, 1) := by decide +kernel
theorem dX7_plain_100 : decode cX7_plain 100 = .ok (.goto 23, 3) := by decide +kernel
theorem dX7_plain_103 : decode cX7_plain 103 = .ok (.aload_n 0, 1) := by decide +kernel
theorem dX7_plain_104 : decode cX7_plain 104 = .ok (.iload 5, 2) := by decide +kernel
theorem dX7_plain_106 : decode cX7_plain 106 = .ok (.invokevirtual 208, 3) := by decide +kernel
theorem dX7_plain_109 : decode cX7_plain 109 = .ok (.aload_n 0, 1) := by decide +kernel
theorem dX7_plain_110 : decode cX7_plain 110 = .ok (.getfield 139, 3) := by decide +kernel
theorem dX7_plain_113 : decode cX7_plain 113 = .ok (.ifCond .eq 8, 3) := by decide +kernel
theorem dX7_plain_116 : decode cX7_plain 116 = .ok (.bipush (-30), 2) := by decide +kernel
theorem dX7_plain_118 : decode cX7_plain 118 = .ok (.goto 4, 3) := by decide +kernel
theorem dX7_plain_121 : decode cX7_plain 121 = .ok (.iconst 0, 1) := by decide +kernel
theorem dX7_plain_122 : decode cX7_plain 122 = .ok (.istore_n 3, 1) := by decide +kernel
theorem dX7_plain_123 : decode cX7_plain 123 = .ok (.iinc 4 1, 3) := by decide +kernel
theorem dX7_plain_126 : decode cX7_plain 126 = .ok (.goto (-91), 3) := by decide +kernel
theorem dX7_plain_129 : decode cX7_plain 129 = .ok (.aload_n 0, 1) := by decide +kernel
theorem dX7_plain_130 : decode cX7_plain 130 = .ok (.invokevirtual 218, 3) := by decide +kernel
theorem dX7_plain_133 : decode cX7_plain 133 = .ok (.iload_n 3, 1) := by decide +kernel
theorem dX7_plain_134 : decode cX7_plain 134 = .ok (.ifCond .eq 7, 3) := by decide +kernel
theorem dX7_plain_137 : decode cX7_plain 137 = .ok (.iload_n 3, 1) := by decide +kernel
theorem dX7_plain_138 : decode cX7_plain 138 = .ok (.goto 4, 3) := by decide +kernel
theorem dX7_plain_141 : decode cX7_plain 141 = .ok (.iload_n 2, 1) := by decide +kernel
theorem dX7_plain_142 : decode cX7_plain 142 = .ok (.ireturn, 1) := by decide +kernel
theorem dX7_save_0 : decode cX7_save 0 = .ok (.aload_n 0, 1) := by decide +kernel
theorem dX7_save_1 : decode cX7_save 1 = .ok (.aload_n 0, 1) := by decide +kernel
theorem dX7_save_2 : decode cX7_save 2 = .ok (.getfield 109, 3) := by decide +kernel
theorem dX7_save_5 : decode cX7_save 5 = .ok (.putfield 221, 3) := by decide +kernel
theorem dX7_save_8 : decode cX7_save 8 = .ok (.iconst 0, 1) := by decide +kernel
theorem dX7_save_9 : decode cX7_save 9 = .ok (.istore_n 1, 1) := by decide +kernel
theorem dX7_save_10 : decode cX7_save 10 = .ok (.iload_n 1, 1) := by decide +kernel
theorem dX7_save_11 : decode cX7_save 11 = .ok (.iconst 5, 1) := by decide +kernel
theorem dX7_save_12 : decode cX7_save 12 = .ok (.if_icmp .ge 71, 3) := by decide +kernel
theorem dX7_save_15 : decode cX7_save 15 = .ok (.aload_n 0, 1) := by decide +kernel
theorem dX7_save_16 : decode cX7_save 16 = .ok (.getfield 55, 3) := by decide +kernel
theorem dX7_save_19 : decode cX7_save 19 = .ok (.iload_n 1, 1) := by decide +kernel
theorem dX7_save_20 : decode cX7_save 20 = .ok (.aload_n 0, 1) := by decide +kernel
theorem dX7_save_21 : decode cX7_save 21 = .ok (.getfield 37, 3) := by decide +kernel
theorem dX7_save_24 : decode cX7_save 24 = .ok (.iload_n 1, 1) := by decide +kernel
theorem dX7_save_25 : decode cX7_save 25 = .ok (.iaload, 1) := by decide +kernel
theorem dX7_save_26 : decode cX7_save 26 = .ok (.iastore, 1) := by decide +kernel
theorem dX7_save_27 : decode cX7_save 27 = .ok (.aload_n 0, 1) := by decide +kernel
theorem dX7_save_28 : decode cX7_save 28 = .ok (.getfield 58, 3) := by decide +kernel
theorem dX7_save_31 : decode cX7_save 31 = .ok (.iload_n 1, 1) := by decide +kernel
theorem dX7_save_32 : decode cX7_save 32 = .ok (.aload_n 0, 1) := by decide +kernel
theorem dX7_save_33 : decode cX7_save 33 = .ok (.getfield 52, 3) := by decide +kernel
theorem dX7_save_36 : decode cX7_save 36 = .ok (.iload_n 1, 1) := by decide +kernel
theorem dX7_save_37 : decode cX7_save 37 = .ok (.iaload, 1) := by decide +kernel
theorem dX7_save_38 : decode cX7_save 38 = .ok (.iastore, 1) := by decide +kernel
theorem dX7_save_39 : decode cX7_save 39 = .ok (.aload_n 0, 1) := by decide +kernel
theorem dX7_save_40 : decode cX7_save 40 = .ok (.getfield 67, 3) := by decide +kernel
theorem dX7_save_43 : decode cX7_save 43 = .ok (.iload_n 1, 1) := by decide +kernel
theorem dX7_save_44 : decode cX7_save 44 = .ok (.aload_n 0, 1) := by decide +kernel
theorem dX7_save_45 : decode cX7_save 45 = .ok (.getfield 33, 3) := by decide +kernel
theorem dX7_save_48 : decode cX7_save 48 = .ok (.iload_n 1, 1) := by decide +kernel
theorem dX7_save_49 : decode cX7_save 49 = .ok (.baload, 1) := by decide +kernel
theorem dX7_save_50 : decode cX7_save 50 = .ok (.bastore, 1) := by decide +kernel
theorem dX7_save_51 : decode cX7_save 51 = .ok (.aload_n 0, 1) := by decide +kernel
theorem dX7_save_52 : decode cX7_save 52 = .ok (.getfield 61, 3) := by decide +kernel
theorem dX7_save_55 : decode cX7_save 55 = .ok (.iload_n 1, 1) := by decide +kernel
theorem dX7_save_56 : decode cX7_save 56 = .ok (.aload_n 0, 1) := by decide +kernel
theorem dX7_save_57 : decode cX7_save 57 = .ok (.getfield 40, 3) := by decide +kernel
theorem dX7_save_60 : decode cX7_save 60 = .ok (.iload_n 1, 1) := by decide +kernel
theorem dX7_save_61 : decode cX7_save 61 = .ok (.laload, 1) := by decide +kernel
theorem dX7_save_62 : decode cX7_save 62 = .ok (.lastore, 1) := by decide +kernel
theorem dX7_save_63 : decode cX7_save 63 = .ok (.aload_n 0, 1) := by decide +kernel
theorem dX7_save_64 : decode cX7_save 64 = .ok (.getfield 61, 3) := by decide +kernel
theorem dX7_save_67 : decode cX7_save 67 = .ok (.iconst 5, 1) := by decide +kernel
theorem dX7_save_68 : decode cX7_save 68 = .ok (.iload_n 1, 1) := by decide +kernel
theorem dX7_save_69 : decode cX7_save 69 = .ok (.iadd, 1) := by decide +kernel
theorem dX7_save_70 : decode cX7_save 70 = .ok (.aload_n 0, 1) := by decide +kernel
theorem dX7_save_71 : decode cX7_save 71 = .ok (.getfield 43, 3) := by decide +kernel
theorem dX7_save_74 : decode cX7_save 74 = .ok (.iload_n 1, 1) := by decide +kernel
theorem dX7_save_75 : decode cX7_save 75 = .ok (.laload, 1) := by decide +kernel
theorem dX7_save_76 : decode cX7_save 76 = .ok (.lastore, 1) := by decide +kernel
theorem dX7_save_77 : decode cX7_save 77 = .ok (.iinc 1 1, 3) := by decide +kernel
theorem dX7_save_80 : decode cX7_save 80 = .ok (.goto (-70), 3) := by decide +kernel
theorem dX7_save_83 : decode cX7_save 83 = .ok (.iconst 0, 1) := by decide +kernel
theorem dX7_save_84 : decode cX7_save 84 = .ok (.istore_n 1, 1) := by decide +kernel
theorem dX7_save_85 : decode cX7_save 85 = .ok (.iload_n 1, 1) := by decide +kernel
theorem dX7_save_86 : decode cX7_save 86 = .ok (.bipush 25, 2) := by decide +kernel
theorem dX7_save_88 : decode cX7_save 88 = .ok (.if_icmp .ge 36, 3) := by decide +kernel
theorem dX7_save_91 : decode cX7_save 91 = .ok (.aload_n 0, 1) := by decide +kernel
theorem dX7_save_92 : decode cX7_save 92 = .ok (.getfield 64, 3) := by decide +kernel
theorem dX7_save_95 : decode cX7_save 95 = .ok (.iload_n 1, 1) := by decide +kernel
theorem dX7_save_96 : decode cX7_save 96 = .ok (.aload_n 0, 1) := by decide +kernel
theorem dX7_save_97 : decode cX7_save 97 = .ok (.getfield 46, 3) := by decide +kernel
theorem dX7_save_100 : decode cX7_save 100 = .ok (.iload_n 1, 1) := by decide +kernel
theorem dX7_save_101 : decode cX7_save 101 = .ok (.laload, 1) := by decide +kernel
theorem dX7_save_102 : decode cX7_save 102 = .ok (.lastore, 1) := by decide +kernel
theorem dX7_save_103 : decode cX7_save 103 = .ok (.aload_n 0, 1) := by decide +kernel
theorem dX7_save_104 : decode cX7_save 104 = .ok (.getfield 64, 3) := by decide +kernel
theorem dX7_save_107 : decode cX7_save 107 = .ok (.bipush 25, 2) := by decide +kernel
theorem dX7_save_109 : decode cX7_save 109 = .ok (.iload_n 1, 1) := by decide +kernel
theorem dX7_save_110 : decode cX7_save 110 = .ok (.iadd, 1) := by decide +kernel
theorem dX7_save_111 : decode cX7_save 111 = .ok (.aload_n 0, 1) := by decide +kernel
theorem dX7_save_112 : decode cX7_save 112 = .ok (.getfield 49, 3) := by decide +kernel
theorem dX7_save_115 : decode cX7_save 115 = .ok (.iload_n 1, 1) := by decide +kernel
theorem dX7_save_116 : decode cX7_save 116 = .ok (.laload, 1) := by decide +kernel
theorem dX7_save_117 : decode cX7_save 117 = .ok (.lastore, 1) := by decide +kernel
theorem dX7_save_118 : decode cX7_save 118 = .ok (.iinc 1 1, 3) := by decide +kernel
theorem dX7_save_121 : decode cX7_save 121 = .ok (.goto (-36), 3) := by decide +kernel
theorem dX7_save_124 : decode cX7_save 124 = .ok (.return_, 1) := by decide +kernel
theorem dX7_restore_0 : decode cX7_restore 0 = .ok (.aload_n 0, 1) := by decide +kernel
theorem dX7_restore_1 : decode cX7_restore 1 = .ok (.aload_n 0, 1) := by decide +kernel
theorem dX7_restore_2 : decode cX7_restore 2 = .ok (.getfield 221, 3) := by decide +kernel
theorem dX7_restore_5 : decode cX7_restore 5 = .ok (.putfield 109, 3) := by decide +kernel
theorem dX7_restore_8 : decode cX7_restore 8 = .ok (.iconst 0, 1) := by decide +kernel
theorem dX7_restore_9 : decode cX7_restore 9 = .ok (.istore_n 1, 1) := by decide +kernel
theorem dX7_restore_10 : decode cX7_restore 10 = .ok (.iload_n 1, 1) := by decide +kernel
theorem dX7_restore_11 : decode cX7_restore 11 = .ok (.iconst 5, 1) := by decide +kernel
theorem dX7_restore_12 : decode cX7_restore 12 = .ok (.if_icmp .ge 71, 3) := by decide +kernel
theorem dX7_restore_15 : decode cX7_restore 15 = .ok (.aload_n 0, 1) := by decide +kernel
theorem dX7_restore_16 : decode cX7_restore 16 = .ok (.getfield 37, 3) := by decide +kernel
theorem dX7_restore_19 : decode cX7_restore 19 = .ok (.iload_n 1, 1) := by decide +kernel
theorem dX7_restore_20 : decode cX7_restore 20 = .ok (.aload_n 0, 1) := by decide +kernel
theorem dX7_restore_21 : decode cX7_restore 21 = .ok (.getfield 55, 3) := by decide +kernel
theorem dX7_restore_24 : decode cX7_restore 24 = .ok (.iload_n 1, 1) := by decide +kernel
theorem dX7_restore_25 : decode cX7_restore 25 = .ok (.iaload, 1) := by decide +kernel
theorem dX7_restore_26 : decode cX7_restore 26 = .ok (.iastore, 1) := by decide +kernel
theorem dX7_restore_27 : decode cX7_restore 27 = .ok (.aload_n 0, 1) := by decide +kernel
theorem dX7_restore_28 : decode cX7_restore 28 = .ok (.getfield 52, 3) := by decide +kernel
theorem dX7_restore_31 : decode cX7_restore 31 = .ok (.iload_n 1, 1) := by decide +kernel
theorem dX7_restore_32 : decode cX7_restore 32 = .ok (.aload_n 0, 1) := by decide +kernel
theorem dX7_restore_33 : decode cX7_restore 33 = .ok (.getfield 58, 3) := by decide +kernel
theorem dX7_restore_36 : decode cX7_restore 36 = .ok (.iload_n 1, 1) := by decide +kernel
theorem dX7_restore_37 : decode cX7_restore 37 = .ok (.iaload, 1) := by decide +kernel
theorem dX7_restore_38 : decode cX7_restore 38 = .ok (.iastore, 1) := by decide +kernel
theorem dX7_restore_39 : decode cX7_restore 39 = .ok (.aload_n 0, 1) := by decide +kernel
theorem dX7_restore_40 : decode cX7_restore 40 = .ok (.getfield 33, 3) := by decide +kernel
theorem dX7_restore_43 : decode cX7_restore 43 = .ok (.iload_n 1, 1) := by decide +kernel
theorem dX7_restore_44 : decode cX7_restore 44 = .ok (.aload_n 0, 1) := by decide +kernel
theorem dX7_restore_45 : decode cX7_restore 45 = .ok (.getfield 67, 3) := by decide +kernel
theorem dX7_restore_48 : decode cX7_restore 48 = .ok (.iload_n 1, 1) := by decide +kernel
theorem dX7_restore_49 : decode cX7_restore 49 = .ok (.baload, 1) := by decide +kernel
theorem dX7_restore_50 : decode cX7_restore 50 = .ok (.bastore, 1) := by decide +kernel
theorem dX7_restore_51 : decode cX7_restore 51 = .ok (.aload_n 0, 1) := by decide +kernel
theorem dX7_restore_52 : decode cX7_restore 52 = .ok (.getfield 40, 3) := by decide +kernel
theorem dX7_restore_55 : decode cX7_restore 55 = .ok (.iload_n 1, 1) := by decide +kernel
theorem dX7_restore_56 : decode cX7_restore 56 = .ok (.aload_n 0, 1) := by decide +kernel
theorem dX7_restore_57 : decode cX7_restore 57 = .ok (.getfield 61, 3) := by decide +kernel
theorem dX7_restore_60 : decode cX7_restore 60 = .ok (.iload_n 1, 1) := by decide +kernel
theorem dX7_restore_61 : decode cX7_restore 61 = .ok (.laload, 1) := by decide +kernel
theorem dX7_restore_62 : decode cX7_restore 62 = .ok (.lastore, 1) := by decide +kernel
theorem dX7_restore_63 : decode cX7_restore 63 = .ok (.aload_n 0, 1) := by decide +kernel
theorem dX7_restore_64 : decode cX7_restore 64 = .ok (.getfield 43, 3) := by decide +kernel
theorem dX7_restore_67 : decode cX7_restore 67 = .ok (.iload_n 1, 1) := by decide +kernel
theorem dX7_restore_68 : decode cX7_restore 68 = .ok (.aload_n 0, 1) := by decide +kernel
theorem dX7_restore_69 : decode cX7_restore 69 = .ok (.getfield 61, 3) := by decide +kernel
theorem dX7_restore_72 : decode cX7_restore 72 = .ok (.iconst 5, 1) := by decide +kernel
theorem dX7_restore_73 : decode cX7_restore 73 = .ok (.iload_n 1, 1) := by decide +kernel
theorem dX7_restore_74 : decode cX7_restore 74 = .ok (.iadd, 1) := by decide +kernel
theorem dX7_restore_75 : decode cX7_restore 75 = .ok (.laload, 1) := by decide +kernel
theorem dX7_restore_76 : decode cX7_restore 76 = .ok (.lastore, 1) := by decide +kernel
theorem dX7_restore_77 : decode cX7_restore 77 = .ok (.iinc 1 1, 3) := by decide +kernel
theorem dX7_restore_80 : decode cX7_restore 80 = .ok (.goto (-70), 3) := by decide +kernel
theorem dX7_restore_83 : decode cX7_restore 83 = .ok (.iconst 0, 1) := by decide +kernel
theorem dX7_restore_84 : decode cX7_restore 84 = .ok (.istore_n 1, 1) := by decide +kernel
theorem dX7_restore_85 : decode cX7_restore 85 = .ok (.iload_n 1, 1) := by decide +kernel
theorem dX7_restore_86 : decode cX7_restore 86 = .ok (.bipush 25, 2) := by decide +kernel
theorem dX7_restore_88 : decode cX7_restore 88 = .ok (.if_icmp .ge 36, 3) := by decide +kernel
theorem dX7_restore_91 : decode cX7_restore 91 = .ok (.aload_n 0, 1) := by decide +kernel
theorem dX7_restore_92 : decode cX7_restore 92 = .ok (.getfield 46, 3) := by decide +kernel
theorem dX7_restore_95 : decode cX7_restore 95 = .ok (.iload_n 1, 1) := by decide +kernel
theorem dX7_restore_96 : decode cX7_restore 96 = .ok (.aload_n 0, 1) := by decide +kernel
theorem dX7_restore_97 : decode cX7_restore 97 = .ok (.getfield 64, 3) := by decide +kernel
theorem dX7_restore_100 : decode cX7_restore 100 = .ok (.iload_n 1, 1) := by decide +kernel
theorem dX7_restore_101 : decode cX7_restore 101 = .ok (.laload, 1) := by decide +kernel
theorem dX7_restore_102 : decode cX7_restore 102 = .ok (.lastore, 1) := by decide +kernel
theorem dX7_restore_103 : decode cX7_restore 103 = .ok (.aload_n 0, 1) := by decide +kernel
theorem dX7_restore_104 : decode cX7_restore 104 = .ok (.getfield 49, 3) := by decide +kernel
theorem dX7_restore_107 : decode cX7_restore 107 = .ok (.iload_n 1, 1) := by decide +kernel
theorem dX7_restore_108 : decode cX7_restore 108 = .ok (.aload_n 0, 1) := by decide +kernel
theorem dX7_restore_109 : decode cX7_restore 109 = .ok (.getfield 64, 3) := by decide +kernel
theorem dX7_restore_112 : decode cX7_restore 112 = .ok (.bipush 25, 2) := by decide +kernel
theorem dX7_restore_114 : decode cX7_restore 114 = .ok (.iload_n 1, 1) := by decide +kernel
theorem dX7_restore_115 : decode cX7_restore 115 = .ok (.iadd, 1) := by decide +kernel
theorem dX7_restore_116 : decode cX7_restore 116 = .ok (.laload, 1) := by decide +kernel
theorem dX7_restore_117 : decode cX7_restore 117 = .ok (.lastore, 1) := by decide +kernel
theorem dX7_restore_118 : decode cX7_restore 118 = .ok (.iinc 1 1, 3) := by decide +kernel
theorem dX7_restore_121 : decode cX7_restore 121 = .ok (.goto (-36), 3) := by decide +kernel
theorem dX7_restore_124 : decode cX7_restore 124 = .ok (.return_, 1) := by decide +kernel
theorem dX7_noWitness_0 : decode cX7_noWitness 0 = .ok (.iconst 0, 1) := by decide +kernel
theorem dX7_noWitness_1 : decode cX7_noWitness 1 = .ok (.istore_n 1, 1) := by decide +kernel
theorem dX7_noWitness_2 : decode cX7_noWitness 2 = .ok (.iload_n 1, 1) := by decide +kernel
theorem dX7_noWitness_3 : decode cX7_noWitness 3 = .ok (.iconst 5, 1) := by decide +kernel
theorem dX7_noWitness_4 : decode cX7_noWitness 4 = .ok (.if_icmp .ge 23, 3) := by decide +kernel
theorem dX7_noWitness_7 : decode cX7_noWitness 7 = .ok (.aload_n 0, 1) := by decide +kernel
theorem dX7_noWitness_8 : decode cX7_noWitness 8 = .ok (.getfield 70, 3) := by decide +kernel
theorem dX7_noWitness_11 : decode cX7_noWitness 11 = .ok (.iload_n 1, 1) := by decide +kernel
theorem dX7_noWitness_12 : decode cX7_noWitness 12 = .ok (.lconst 0, 1) := by decide +kernel
theorem dX7_noWitness_13 : decode cX7_noWitness 13 = .ok (.lastore, 1) := by decide +kernel
theorem dX7_noWitness_14 : decode cX7_noWitness 14 = .ok (.aload_n 0, 1) := by decide +kernel
theorem dX7_noWitness_15 : decode cX7_noWitness 15 = .ok (.getfield 73, 3) := by decide +kernel
theorem dX7_noWitness_18 : decode cX7_noWitness 18 = .ok (.iload_n 1, 1) := by decide +kernel
theorem dX7_noWitness_19 : decode cX7_noWitness 19 = .ok (.lconst 1, 1) := by decide +kernel
theorem dX7_noWitness_20 : decode cX7_noWitness 20 = .ok (.lastore, 1) := by decide +kernel
theorem dX7_noWitness_21 : decode cX7_noWitness 21 = .ok (.iinc 1 1, 3) := by decide +kernel
theorem dX7_noWitness_24 : decode cX7_noWitness 24 = .ok (.goto (-22), 3) := by decide +kernel
theorem dX7_noWitness_27 : decode cX7_noWitness 27 = .ok (.return_, 1) := by decide +kernel
theorem dX7_goBack_0 : decode cX7_goBack 0 = .ok (.aload_n 0, 1) := by decide +kernel
theorem dX7_goBack_1 : decode cX7_goBack 1 = .ok (.getfield 109, 3) := by decide +kernel
theorem dX7_goBack_4 : decode cX7_goBack 4 = .ok (.iconst 1, 1) := by decide +kernel
theorem dX7_goBack_5 : decode cX7_goBack 5 = .ok (.isub, 1) := by decide +kernel
theorem dX7_goBack_6 : decode cX7_goBack 6 = .ok (.istore_n 1, 1) := by decide +kernel
theorem dX7_goBack_7 : decode cX7_goBack 7 = .ok (.iload_n 1, 1) := by decide +kernel
theorem dX7_goBack_8 : decode cX7_goBack 8 = .ok (.ifCond .lt 167, 3) := by decide +kernel
theorem dX7_goBack_11 : decode cX7_goBack 11 = .ok (.aload_n 0, 1) := by decide +kernel
theorem dX7_goBack_12 : decode cX7_goBack 12 = .ok (.invokevirtual 154, 3) := by decide +kernel
theorem dX7_goBack_15 : decode cX7_goBack 15 = .ok (.ifCond .ne 160, 3) := by decide +kernel
theorem dX7_goBack_18 : decode cX7_goBack 18 = .ok (.lconst 0, 1) := by decide +kernel
theorem dX7_goBack_19 : decode cX7_goBack 19 = .ok (.lstore_n 2, 1) := by decide +kernel
theorem dX7_goBack_20 : decode cX7_goBack 20 = .ok (.lconst 1, 1) := by decide +kernel
theorem dX7_goBack_21 : decode cX7_goBack 21 = .ok (.lstore 4, 2) := by decide +kernel
theorem dX7_goBack_23 : decode cX7_goBack 23 = .ok (.iconst 0, 1) := by decide +kernel
theorem dX7_goBack_24 : decode cX7_goBack 24 = .ok (.istore 6, 2) := by decide +kernel
theorem dX7_goBack_26 : decode cX7_goBack 26 = .ok (.iload 6, 2) := by decide +kernel
theorem dX7_goBack_28 : decode cX7_goBack 28 = .ok (.aload_n 0, 1) := by decide +kernel
theorem dX7_goBack_29 : decode cX7_goBack 29 = .ok (.getfield 7, 3) := by decide +kernel
theorem dX7_goBack_32 : decode cX7_goBack 32 = .ok (.if_icmp .gt 98, 3) := by decide +kernel
theorem dX7_goBack_35 : decode cX7_goBack 35 = .ok (.aload_n 0, 1) := by decide +kernel
theorem dX7_goBack_36 : decode cX7_goBack 36 = .ok (.iload 6, 2) := by decide +kernel
theorem dX7_goBack_38 : decode cX7_goBack 38 = .ok (.invokevirtual 171, 3) := by decide +kernel
theorem dX7_goBack_41 : decode cX7_goBack 41 = .ok (.istore 7, 2) := by decide +kernel
theorem dX7_goBack_43 : decode cX7_goBack 43 = .ok (.aload_n 0, 1) := by decide +kernel
theorem dX7_goBack_44 : decode cX7_goBack 44 = .ok (.getfield 52, 3) := by decide +kernel
theorem dX7_goBack_47 : decode cX7_goBack 47 = .ok (.iload_n 1, 1) := by decide +kernel
theorem dX7_goBack_48 : decode cX7_goBack 48 = .ok (.iaload, 1) := by decide +kernel
theorem dX7_goBack_49 : decode cX7_goBack 49 = .ok (.iload 7, 2) := by decide +kernel
theorem dX7_goBack_51 : decode cX7_goBack 51 = .ok (.ishr, 1) := by decide +kernel
theorem dX7_goBack_52 : decode cX7_goBack 52 = .ok (.iconst 1, 1) := by decide +kernel
theorem dX7_goBack_53 : decode cX7_goBack 53 = .ok (.iand, 1) := by decide +kernel
theorem dX7_goBack_54 : decode cX7_goBack 54 = .ok (.iconst 1, 1) := by decide +kernel
theorem dX7_goBack_55 : decode cX7_goBack 55 = .ok (.if_icmp .ne 69, 3) := by decide +kernel
theorem dX7_goBack_58 : decode cX7_goBack 58 = .ok (.aload_n 0, 1) := by decide +kernel
theorem dX7_goBack_59 : decode cX7_goBack 59 = .ok (.aload_n 0, 1) := by decide +kernel
theorem dX7_goBack_60 : decode cX7_goBack 60 = .ok (.getfield 46, 3) := by decide +kernel
theorem dX7_goBack_63 : decode cX7_goBack 63 = .ok (.iconst 5, 1) := by decide +kernel
theorem dX7_goBack_64 : decode cX7_goBack 64 = .ok (.iload_n 1, 1) := by decide +kernel
theorem dX7_goBack_65 : decode cX7_goBack 65 = .ok (.imul, 1) := by decide +kernel
theorem dX7_goBack_66 : decode cX7_goBack 66 = .ok (.iload 7, 2) := by decide +kernel
theorem dX7_goBack_68 : decode cX7_goBack 68 = .ok (.iadd, 1) := by decide +kernel
theorem dX7_goBack_69 : decode cX7_goBack 69 = .ok (.laload, 1) := by decide +kernel
theorem dX7_goBack_70 : decode cX7_goBack 70 = .ok (.aload_n 0, 1) := by decide +kernel
theorem dX7_goBack_71 : decode cX7_goBack 71 = .ok (.getfield 49, 3) := by decide +kernel
theorem dX7_goBack_74 : decode cX7_goBack 74 = .ok (.iconst 5, 1) := by decide +kernel
theorem dX7_goBack_75 : decode cX7_goBack 75 = .ok (.iload_n 1, 1) := by decide +kernel
theorem dX7_goBack_76 : decode cX7_goBack 76 = .ok (.imul, 1) := by decide +kernel
theorem dX7_goBack_77 : decode cX7_goBack 77 = .ok (.iload 7, 2) := by decide +kernel
theorem dX7_goBack_79 : decode cX7_goBack 79 = .ok (.iadd, 1) := by decide +kernel
theorem dX7_goBack_80 : decode cX7_goBack 80 = .ok (.laload, 1) := by decide +kernel
theorem dX7_goBack_81 : decode cX7_goBack 81 = .ok (.aload_n 0, 1) := by decide +kernel
theorem dX7_goBack_82 : decode cX7_goBack 82 = .ok (.getfield 70, 3) := by decide +kernel
theorem dX7_goBack_85 : decode cX7_goBack 85 = .ok (.iload 7, 2) := by decide +kernel
theorem dX7_goBack_87 : decode cX7_goBack 87 = .ok (.laload, 1) := by decide +kernel
theorem dX7_goBack_88 : decode cX7_goBack 88 = .ok (.aload_n 0, 1) := by decide +kernel
theorem dX7_goBack_89 : decode cX7_goBack 89 = .ok (.getfield 73, 3) := by decide +kernel
theorem dX7_goBack_92 : decode cX7_goBack 92 = .ok (.iload 7, 2) := by decide +kernel
theorem dX7_goBack_94 : decode cX7_goBack 94 = .ok (.laload, 1) := by decide +kernel
theorem dX7_goBack_95 : decode cX7_goBack 95 = .ok (.invokevirtual 179, 3) := by decide +kernel
theorem dX7_goBack_98 : decode cX7_goBack 98 = .ok (.aload_n 0, 1) := by decide +kernel
theorem dX7_goBack_99 : decode cX7_goBack 99 = .ok (.lload_n 2, 1) := by decide +kernel
theorem dX7_goBack_100 : decode cX7_goBack 100 = .ok (.lload 4, 2) := by decide +kernel
theorem dX7_goBack_102 : decode cX7_goBack 102 = .ok (.aload_n 0, 1) := by decide +kernel
theorem dX7_goBack_103 : decode cX7_goBack 103 = .ok (.getfield 147, 3) := by decide +kernel
theorem dX7_goBack_106 : decode cX7_goBack 106 = .ok (.aload_n 0, 1) := by decide +kernel
theorem dX7_goBack_107 : decode cX7_goBack 107 = .ok (.getfield 151, 3) := by decide +kernel
theorem dX7_goBack_110 : decode cX7_goBack 110 = .ok (.invokevirtual 224, 3) := by decide +kernel
theorem dX7_goBack_113 : decode cX7_goBack 113 = .ok (.aload_n 0, 1) := by decide +kernel
theorem dX7_goBack_114 : decode cX7_goBack 114 = .ok (.getfield 147, 3) := by decide +kernel
theorem dX7_goBack_117 : decode cX7_goBack 117 = .ok (.lstore_n 2, 1) := by decide +kernel
theorem dX7_goBack_118 : decode cX7_goBack 118 = .ok (.aload_n 0, 1) := by decide +kernel
theorem dX7_goBack_119 : decode cX7_goBack 119 = .ok (.getfield 151, 3) := by decide +kernel
theorem dX7_goBack_122 : decode cX7_goBack 122 = .ok (.lstore 4, 2) := by decide +kernel
theorem dX7_goBack_124 : decode cX7_goBack 124 = .ok (.iinc 6 1, 3) := by decide +kernel
theorem dX7_goBack_127 : decode cX7_goBack 127 = .ok (.goto (-101), 3) := by decide +kernel
theorem dX7_goBack_130 : decode cX7_goBack 130 = .ok (.aload_n 0, 1) := by decide +kernel
theorem dX7_goBack_131 : decode cX7_goBack 131 = .ok (.lconst 0, 1) := by decide +kernel
theorem dX7_goBack_132 : decode cX7_goBack 132 = .ok (.lconst 1, 1) := by decide +kernel
theorem dX7_goBack_133 : decode cX7_goBack 133 = .ok (.lload_n 2, 1) := by decide +kernel
theorem dX7_goBack_134 : decode cX7_goBack 134 = .ok (.lload 4, 2) := by decide +kernel
theorem dX7_goBack_136 : decode cX7_goBack 136 = .ok (.invokevirtual 182, 3) := by decide +kernel
theorem dX7_goBack_139 : decode cX7_goBack 139 = .ok (.aload_n 0, 1) := by decide +kernel
theorem dX7_goBack_140 : decode cX7_goBack 140 = .ok (.getfield 70, 3) := by decide +kernel
theorem dX7_goBack_143 : decode cX7_goBack 143 = .ok (.aload_n 0, 1) := by decide +kernel
theorem dX7_goBack_144 : decode cX7_goBack 144 = .ok (.getfield 37, 3) := by decide +kernel
theorem dX7_goBack_147 : decode cX7_goBack 147 = .ok (.iload_n 1, 1) := by decide +kernel
theorem dX7_goBack_148 : decode cX7_goBack 148 = .ok (.iaload, 1) := by decide +kernel
theorem dX7_goBack_149 : decode cX7_goBack 149 = .ok (.aload_n 0, 1) := by decide +kernel
theorem dX7_goBack_150 : decode cX7_goBack 150 = .ok (.getfield 147, 3) := by decide +kernel
theorem dX7_goBack_153 : decode cX7_goBack 153 = .ok (.lastore, 1) := by decide +kernel
theorem dX7_goBack_154 : decode cX7_goBack 154 = .ok (.aload_n 0, 1) := by decide +kernel
theorem dX7_goBack_155 : decode cX7_goBack 155 = .ok (.getfield 73, 3) := by decide +kernel
theorem dX7_goBack_158 : decode cX7_goBack 158 = .ok (.aload_n 0, 1) := by decide +kernel
theorem dX7_goBack_159 : decode cX7_goBack 159 = .ok (.getfield 37, 3) := by decide +kernel
theorem dX7_goBack_162 : decode cX7_goBack 162 = .ok (.iload_n 1, 1) := by decide +kernel
theorem dX7_goBack_163 : decode cX7_goBack 163 = .ok (.iaload, 1) := by decide +kernel
theorem dX7_goBack_164 : decode cX7_goBack 164 = .ok (.aload_n 0, 1) := by decide +kernel
theorem dX7_goBack_165 : decode cX7_goBack 165 = .ok (.getfield 151, 3) := by decide +kernel
theorem dX7_goBack_168 : decode cX7_goBack 168 = .ok (.lastore, 1) := by decide +kernel
theorem dX7_goBack_169 : decode cX7_goBack 169 = .ok (.iinc 1 (-1), 3) := by decide +kernel
theorem dX7_goBack_172 : decode cX7_goBack 172 = .ok (.goto (-165), 3) := by decide +kernel
theorem dX7_goBack_175 : decode cX7_goBack 175 = .ok (.return_, 1) := by decide +kernel
theorem dX7_pointBy_0 : decode cX7_pointBy 0 = .ok (.aload_n 0, 1) := by decide +kernel
theorem dX7_pointBy_1 : decode cX7_pointBy 1 = .ok (.invokevirtual 227, 3) := by decide +kernel
theorem dX7_pointBy_4 : decode cX7_pointBy 4 = .ok (.aload_n 0, 1) := by decide +kernel
theorem dX7_pointBy_5 : decode cX7_pointBy 5 = .ok (.getfield 202, 3) := by decide +kernel
theorem dX7_pointBy_8 : decode cX7_pointBy 8 = .ok (.ifCond .lt 16, 3) := by decide +kernel
theorem dX7_pointBy_11 : decode cX7_pointBy 11 = .ok (.aload_n 0, 1) := by decide +kernel
theorem dX7_pointBy_12 : decode cX7_pointBy 12 = .ok (.getfield 70, 3) := by decide +kernel
theorem dX7_pointBy_15 : decode cX7_pointBy 15 = .ok (.aload_n 0, 1) := by decide +kernel
theorem dX7_pointBy_16 : decode cX7_pointBy 16 = .ok (.getfield 202, 3) := by decide +kernel
theorem dX7_pointBy_19 : decode cX7_pointBy 19 = .ok (.lconst 1, 1) := by decide +kernel
theorem dX7_pointBy_20 : decode cX7_pointBy 20 = .ok (.lastore, 1) := by decide +kernel
theorem dX7_pointBy_21 : decode cX7_pointBy 21 = .ok (.goto 50, 3) := by decide +kernel
theorem dX7_pointBy_24 : decode cX7_pointBy 24 = .ok (.aload_n 0, 1) := by decide +kernel
theorem dX7_pointBy_25 : decode cX7_pointBy 25 = .ok (.getfield 70, 3) := by decide +kernel
theorem dX7_pointBy_28 : decode cX7_pointBy 28 = .ok (.aload_n 0, 1) := by decide +kernel
theorem dX7_pointBy_29 : decode cX7_pointBy 29 = .ok (.getfield 189, 3) := by decide +kernel
theorem dX7_pointBy_32 : decode cX7_pointBy 32 = .ok (.lconst 1, 1) := by decide +kernel
theorem dX7_pointBy_33 : decode cX7_pointBy 33 = .ok (.lastore, 1) := by decide +kernel
theorem dX7_pointBy_34 : decode cX7_pointBy 34 = .ok (.aload_n 0, 1) := by decide +kernel
theorem dX7_pointBy_35 : decode cX7_pointBy 35 = .ok (.getfield 70, 3) := by decide +kernel
theorem dX7_pointBy_38 : decode cX7_pointBy 38 = .ok (.aload_n 0, 1) := by decide +kernel
theorem dX7_pointBy_39 : decode cX7_pointBy 39 = .ok (.getfield 192, 3) := by decide +kernel
theorem dX7_pointBy_42 : decode cX7_pointBy 42 = .ok (.aload_n 0, 1) := by decide +kernel
theorem dX7_pointBy_43 : decode cX7_pointBy 43 = .ok (.getfield 20, 3) := by decide +kernel
theorem dX7_pointBy_46 : decode cX7_pointBy 46 = .ok (.iconst 5, 1) := by decide +kernel
theorem dX7_pointBy_47 : decode cX7_pointBy 47 = .ok (.aload_n 0, 1) := by decide +kernel
theorem dX7_pointBy_48 : decode cX7_pointBy 48 = .ok (.getfield 189, 3) := by decide +kernel
theorem dX7_pointBy_51 : decode cX7_pointBy 51 = .ok (.imul, 1) := by decide +kernel
theorem dX7_pointBy_52 : decode cX7_pointBy 52 = .ok (.aload_n 0, 1) := by decide +kernel
theorem dX7_pointBy_53 : decode cX7_pointBy 53 = .ok (.getfield 192, 3) := by decide +kernel
theorem dX7_pointBy_56 : decode cX7_pointBy 56 = .ok (.iadd, 1) := by decide +kernel
theorem dX7_pointBy_57 : decode cX7_pointBy 57 = .ok (.laload, 1) := by decide +kernel
theorem dX7_pointBy_58 : decode cX7_pointBy 58 = .ok (.lconst 0, 1) := by decide +kernel
theorem dX7_pointBy_59 : decode cX7_pointBy 59 = .ok (.lcmp, 1) := by decide +kernel
theorem dX7_pointBy_60 : decode cX7_pointBy 60 = .ok (.ifCond .le 9, 3) := by decide +kernel
theorem dX7_pointBy_63 : decode cX7_pointBy 63 = .ok (.ldc2_w 137, 3) := by decide +kernel
theorem dX7_pointBy_66 : decode cX7_pointBy 66 = .ok (.goto 4, 3) := by decide +kernel
theorem dX7_pointBy_69 : decode cX7_pointBy 69 = .ok (.lconst 1, 1) := by decide +kernel
theorem dX7_pointBy_70 : decode cX7_pointBy 70 = .ok (.lastore, 1) := by decide +kernel
theorem dX7_pointBy_71 : decode cX7_pointBy 71 = .ok (.aload_n 0, 1) := by decide +kernel
theorem dX7_pointBy_72 : decode cX7_pointBy 72 = .ok (.invokevirtual 230, 3) := by decide +kernel
theorem dX7_pointBy_75 : decode cX7_pointBy 75 = .ok (.aload_n 0, 1) := by decide +kernel
theorem dX7_pointBy_76 : decode cX7_pointBy 76 = .ok (.invokevirtual 154, 3) := by decide +kernel
theorem dX7_pointBy_79 : decode cX7_pointBy 79 = .ok (.ifCond .eq 5, 3) := by decide +kernel
theorem dX7_pointBy_82 : decode cX7_pointBy 82 = .ok (.iconst 0, 1) := by decide +kernel
theorem dX7_pointBy_83 : decode cX7_pointBy 83 = .ok (.ireturn, 1) := by decide +kernel
theorem dX7_pointBy_84 : decode cX7_pointBy 84 = .ok (.aload_n 0, 1) := by decide +kernel
theorem dX7_pointBy_85 : decode cX7_pointBy 85 = .ok (.getfield 70, 3) := by decide +kernel
theorem dX7_pointBy_88 : decode cX7_pointBy 88 = .ok (.iconst 0, 1) := by decide +kernel
theorem dX7_pointBy_89 : decode cX7_pointBy 89 = .ok (.laload, 1) := by decide +kernel
theorem dX7_pointBy_90 : decode cX7_pointBy 90 = .ok (.lconst 0, 1) := by decide +kernel
theorem dX7_pointBy_91 : decode cX7_pointBy 91 = .ok (.lcmp, 1) := by decide +kernel
theorem dX7_pointBy_92 : decode cX7_pointBy 92 = .ok (.ifCond .eq 80, 3) := by decide +kernel
theorem dX7_pointBy_95 : decode cX7_pointBy 95 = .ok (.iconst 1, 1) := by decide +kernel
theorem dX7_pointBy_96 : decode cX7_pointBy 96 = .ok (.istore_n 2, 1) := by decide +kernel
theorem dX7_pointBy_97 : decode cX7_pointBy 97 = .ok (.iload_n 2, 1) := by decide +kernel
theorem dX7_pointBy_98 : decode cX7_pointBy 98 = .ok (.aload_n 0, 1) := by decide +kernel
theorem dX7_pointBy_99 : decode cX7_pointBy 99 = .ok (.getfield 7, 3) := by decide +kernel
theorem dX7_pointBy_102 : decode cX7_pointBy 102 = .ok (.if_icmp .gt 57, 3) := by decide +kernel
theorem dX7_pointBy_105 : decode cX7_pointBy 105 = .ok (.aload_n 0, 1) := by decide +kernel
theorem dX7_pointBy_106 : decode cX7_pointBy 106 = .ok (.aload_n 0, 1) := by decide +kernel
theorem dX7_pointBy_107 : decode cX7_pointBy 107 = .ok (.getfield 70, 3) := by decide +kernel
theorem dX7_pointBy_110 : decode cX7_pointBy 110 = .ok (.iload_n 2, 1) := by decide +kernel
theorem dX7_pointBy_111 : decode cX7_pointBy 111 = .ok (.laload, 1) := by decide +kernel
theorem dX7_pointBy_112 : decode cX7_pointBy 112 = .ok (.aload_n 0, 1) := by decide +kernel
theorem dX7_pointBy_113 : decode cX7_pointBy 113 = .ok (.getfield 73, 3) := by decide +kernel
theorem dX7_pointBy_116 : decode cX7_pointBy 116 = .ok (.iload_n 2, 1) := by decide +kernel
theorem dX7_pointBy_117 : decode cX7_pointBy 117 = .ok (.laload, 1) := by decide +kernel
theorem dX7_pointBy_118 : decode cX7_pointBy 118 = .ok (.aload_n 0, 1) := by decide +kernel
theorem dX7_pointBy_119 : decode cX7_pointBy 119 = .ok (.getfield 70, 3) := by decide +kernel
theorem dX7_pointBy_122 : decode cX7_pointBy 122 = .ok (.iconst 0, 1) := by decide +kernel
theorem dX7_pointBy_123 : decode cX7_pointBy 123 = .ok (.laload, 1) := by decide +kernel
theorem dX7_pointBy_124 : decode cX7_pointBy 124 = .ok (.aload_n 0, 1) := by decide +kernel
theorem dX7_pointBy_125 : decode cX7_pointBy 125 = .ok (.getfield 73, 3) := by decide +kernel
theorem dX7_pointBy_128 : decode cX7_pointBy 128 = .ok (.iconst 0, 1) := by decide +kernel
theorem dX7_pointBy_129 : decode cX7_pointBy 129 = .ok (.laload, 1) := by decide +kernel
theorem dX7_pointBy_130 : decode cX7_pointBy 130 = .ok (.invokevirtual 175, 3) := by decide +kernel
theorem dX7_pointBy_133 : decode cX7_pointBy 133 = .ok (.aload_n 0, 1) := by decide +kernel
theorem dX7_pointBy_134 : decode cX7_pointBy 134 = .ok (.getfield 76, 3) := by decide +kernel
theorem dX7_pointBy_137 : decode cX7_pointBy 137 = .ok (.iload_n 2, 1) := by decide +kernel
theorem dX7_pointBy_138 : decode cX7_pointBy 138 = .ok (.aload_n 0, 1) := by decide +kernel
theorem dX7_pointBy_139 : decode cX7_pointBy 139 = .ok (.getfield 147, 3) := by decide +kernel
theorem dX7_pointBy_142 : decode cX7_pointBy 142 = .ok (.lastore, 1) := by decide +kernel
theorem dX7_pointBy_143 : decode cX7_pointBy 143 = .ok (.aload_n 0, 1) := by decide +kernel
theorem dX7_pointBy_144 : decode cX7_pointBy 144 = .ok (.getfield 79, 3) := by decide +kernel
theorem dX7_pointBy_147 : decode cX7_pointBy 147 = .ok (.iload_n 2, 1) := by decide +kernel
theorem dX7_pointBy_148 : decode cX7_pointBy 148 = .ok (.aload_n 0, 1) := by decide +kernel
theorem dX7_pointBy_149 : decode cX7_pointBy 149 = .ok (.getfield 151, 3) := by decide +kernel
theorem dX7_pointBy_152 : decode cX7_pointBy 152 = .ok (.lastore, 1) := by decide +kernel
theorem dX7_pointBy_153 : decode cX7_pointBy 153 = .ok (.iinc 2 1, 3) := by decide +kernel
theorem dX7_pointBy_156 : decode cX7_pointBy 156 = .ok (.goto (-59), 3) := by decide +kernel
theorem dX7_pointBy_159 : decode cX7_pointBy 159 = .ok (.aload_n 0, 1) := by decide +kernel
theorem dX7_pointBy_160 : decode cX7_pointBy 160 = .ok (.invokevirtual 154, 3) := by decide +kernel
theorem dX7_pointBy_163 : decode cX7_pointBy 163 = .ok (.ifCond .ne 7, 3) := by decide +kernel
theorem dX7_pointBy_166 : decode cX7_pointBy 166 = .ok (.iconst 1, 1) := by decide +kernel
theorem dX7_pointBy_167 : decode cX7_pointBy 167 = .ok (.goto 4, 3) := by decide +kernel
theorem dX7_pointBy_170 : decode cX7_pointBy 170 = .ok (.iconst 0, 1) := by decide +kernel
theorem dX7_pointBy_171 : decode cX7_pointBy 171 = .ok (.ireturn, 1) := by decide +kernel
theorem dX7_pointBy_172 : decode cX7_pointBy 172 = .ok (.iconst 0, 1) := by decide +kernel
theorem dX7_pointBy_173 : decode cX7_pointBy 173 = .ok (.istore_n 2, 1) := by decide +kernel
theorem dX7_pointBy_174 : decode cX7_pointBy 174 = .ok (.iload_n 2, 1) := by decide +kernel
theorem dX7_pointBy_175 : decode cX7_pointBy 175 = .ok (.bipush 40, 2) := by decide +kernel
theorem dX7_pointBy_177 : decode cX7_pointBy 177 = .ok (.if_icmp .gt 86, 3) := by decide +kernel
theorem dX7_pointBy_180 : decode cX7_pointBy 180 = .ok (.iconst 1, 1) := by decide +kernel
theorem dX7_pointBy_181 : decode cX7_pointBy 181 = .ok (.istore_n 3, 1) := by decide +kernel
theorem dX7_pointBy_182 : decode cX7_pointBy 182 = .ok (.iload_n 3, 1) := by decide +kernel
theorem dX7_pointBy_183 : decode cX7_pointBy 183 = .ok (.aload_n 0, 1) := by decide +kernel
theorem dX7_pointBy_184 : decode cX7_pointBy 184 = .ok (.getfield 7, 3) := by decide +kernel
theorem dX7_pointBy_187 : decode cX7_pointBy 187 = .ok (.if_icmp .gt 49, 3) := by decide +kernel
theorem dX7_pointBy_190 : decode cX7_pointBy 190 = .ok (.aload_n 0, 1) := by decide +kernel
theorem dX7_pointBy_191 : decode cX7_pointBy 191 = .ok (.lconst 1, 1) := by decide +kernel
theorem dX7_pointBy_192 : decode cX7_pointBy 192 = .ok (.iload_n 2, 1) := by decide +kernel
theorem dX7_pointBy_193 : decode cX7_pointBy 193 = .ok (.lshl, 1) := by decide +kernel
theorem dX7_pointBy_194 : decode cX7_pointBy 194 = .ok (.lconst 1, 1) := by decide +kernel
theorem dX7_pointBy_195 : decode cX7_pointBy 195 = .ok (.aload_n 0, 1) := by decide +kernel
theorem dX7_pointBy_196 : decode cX7_pointBy 196 = .ok (.getfield 70, 3) := by decide +kernel
theorem dX7_pointBy_199 : decode cX7_pointBy 199 = .ok (.iload_n 3, 1) := by decide +kernel
theorem dX7_pointBy_200 : decode cX7_pointBy 200 = .ok (.laload, 1) := by decide +kernel
theorem dX7_pointBy_201 : decode cX7_pointBy 201 = .ok (.aload_n 0, 1) := by decide +kernel
theorem dX7_pointBy_202 : decode cX7_pointBy 202 = .ok (.getfield 73, 3) := by decide +kernel
theorem dX7_pointBy_205 : decode cX7_pointBy 205 = .ok (.iload_n 3, 1) := by decide +kernel
theorem dX7_pointBy_206 : decode cX7_pointBy 206 = .ok (.laload, 1) := by decide +kernel
theorem dX7_pointBy_207 : decode cX7_pointBy 207 = .ok (.invokevirtual 179, 3) := by decide +kernel
theorem dX7_pointBy_210 : decode cX7_pointBy 210 = .ok (.aload_n 0, 1) := by decide +kernel
theorem dX7_pointBy_211 : decode cX7_pointBy 211 = .ok (.getfield 76, 3) := by decide +kernel
theorem dX7_pointBy_214 : decode cX7_pointBy 214 = .ok (.iload_n 3, 1) := by decide +kernel
theorem dX7_pointBy_215 : decode cX7_pointBy 215 = .ok (.aload_n 0, 1) := by decide +kernel
theorem dX7_pointBy_216 : decode cX7_pointBy 216 = .ok (.getfield 147, 3) := by decide +kernel
theorem dX7_pointBy_219 : decode cX7_pointBy 219 = .ok (.lastore, 1) := by decide +kernel
theorem dX7_pointBy_220 : decode cX7_pointBy 220 = .ok (.aload_n 0, 1) := by decide +kernel
theorem dX7_pointBy_221 : decode cX7_pointBy 221 = .ok (.getfield 79, 3) := by decide +kernel
theorem dX7_pointBy_224 : decode cX7_pointBy 224 = .ok (.iload_n 3, 1) := by decide +kernel
theorem dX7_pointBy_225 : decode cX7_pointBy 225 = .ok (.aload_n 0, 1) := by decide +kernel
theorem dX7_pointBy_226 : decode cX7_pointBy 226 = .ok (.getfield 151, 3) := by decide +kernel
theorem dX7_pointBy_229 : decode cX7_pointBy 229 = .ok (.lastore, 1) := by decide +kernel
theorem dX7_pointBy_230 : decode cX7_pointBy 230 = .ok (.iinc 3 1, 3) := by decide +kernel
theorem dX7_pointBy_233 : decode cX7_pointBy 233 = .ok (.goto (-51), 3) := by decide +kernel
theorem dX7_pointBy_236 : decode cX7_pointBy 236 = .ok (.aload_n 0, 1) := by decide +kernel
theorem dX7_pointBy_237 : decode cX7_pointBy 237 = .ok (.iload_n 1, 1) := by decide +kernel
theorem dX7_pointBy_238 : decode cX7_pointBy 238 = .ok (.invokevirtual 233, 3) := by decide +kernel
theorem dX7_pointBy_241 : decode cX7_pointBy 241 = .ok (.istore_n 3, 1) := by decide +kernel
theorem dX7_pointBy_242 : decode cX7_pointBy 242 = .ok (.aload_n 0, 1) := by decide +kernel
theorem dX7_pointBy_243 : decode cX7_pointBy 243 = .ok (.invokevirtual 154, 3) := by decide +kernel
theorem dX7_pointBy_246 : decode cX7_pointBy 246 = .ok (.ifCond .eq 5, 3) := by decide +kernel
theorem dX7_pointBy_249 : decode cX7_pointBy 249 = .ok (.iconst 0, 1) := by decide +kernel
theorem dX7_pointBy_250 : decode cX7_pointBy 250 = .ok (.ireturn, 1) := by decide +kernel
theorem dX7_pointBy_251 : decode cX7_pointBy 251 = .ok (.iload_n 3, 1) := by decide +kernel
theorem dX7_pointBy_252 : decode cX7_pointBy 252 = .ok (.ifCond .eq 5, 3) := by decide +kernel
theorem dX7_pointBy_255 : decode cX7_pointBy 255 = .ok (.iconst 1, 1) := by decide +kernel
theorem dX7_pointBy_256 : decode cX7_pointBy 256 = .ok (.ireturn, 1) := by decide +kernel
theorem dX7_pointBy_257 : decode cX7_pointBy 257 = .ok (.iinc 2 1, 3) := by decide +kernel
theorem dX7_pointBy_260 : decode cX7_pointBy 260 = .ok (.goto (-86), 3) := by decide +kernel
theorem dX7_pointBy_263 : decode cX7_pointBy 263 = .ok (.iconst 0, 1) := by decide +kernel
theorem dX7_pointBy_264 : decode cX7_pointBy 264 = .ok (.ireturn, 1) := by decide +kernel
theorem dX7_isBelow_0 : decode cX7_isBelow 0 = .ok (.aload_n 0, 1) := by decide +kernel
theorem dX7_isBelow_1 : decode cX7_isBelow 1 = .ok (.getfield 76, 3) := by decide +kernel
theorem dX7_isBelow_4 : decode cX7_isBelow 4 = .ok (.iconst 0, 1) := by decide +kernel
theorem dX7_isBelow_5 : decode cX7_isBelow 5 = .ok (.lconst 1, 1) := by decide +kernel
theorem dX7_isBelow_6 : decode cX7_isBelow 6 = .ok (.lastore, 1) := by decide +kernel
theorem dX7_isBelow_7 : decode cX7_isBelow 7 = .ok (.aload_n 0, 1) := by decide +kernel
theorem dX7_isBelow_8 : decode cX7_isBelow 8 = .ok (.getfield 79, 3) := by decide +kernel
theorem dX7_isBelow_11 : decode cX7_isBelow 11 = .ok (.iconst 0, 1) := by decide +kernel
theorem dX7_isBelow_12 : decode cX7_isBelow 12 = .ok (.lconst 1, 1) := by decide +kernel
theorem dX7_isBelow_13 : decode cX7_isBelow 13 = .ok (.lastore, 1) := by decide +kernel
theorem dX7_isBelow_14 : decode cX7_isBelow 14 = .ok (.lconst 0, 1) := by decide +kernel
theorem dX7_isBelow_15 : decode cX7_isBelow 15 = .ok (.lstore_n 2, 1) := by decide +kernel
theorem dX7_isBelow_16 : decode cX7_isBelow 16 = .ok (.lconst 1, 1) := by decide +kernel
theorem dX7_isBelow_17 : decode cX7_isBelow 17 = .ok (.lstore 4, 2) := by decide +kernel
theorem dX7_isBelow_19 : decode cX7_isBelow 19 = .ok (.iconst 0, 1) := by decide +kernel
theorem dX7_isBelow_20 : decode cX7_isBelow 20 = .ok (.istore 6, 2) := by decide +kernel
theorem dX7_isBelow_22 : decode cX7_isBelow 22 = .ok (.iload 6, 2) := by decide +kernel
theorem dX7_isBelow_24 : decode cX7_isBelow 24 = .ok (.aload_n 0, 1) := by decide +kernel
theorem dX7_isBelow_25 : decode cX7_isBelow 25 = .ok (.getfield 7, 3) := by decide +kernel
theorem dX7_isBelow_28 : decode cX7_isBelow 28 = .ok (.if_icmp .gt 118, 3) := by decide +kernel
theorem dX7_isBelow_31 : decode cX7_isBelow 31 = .ok (.iload 6, 2) := by decide +kernel
theorem dX7_isBelow_33 : decode cX7_isBelow 33 = .ok (.istore 7, 2) := by decide +kernel
theorem dX7_isBelow_35 : decode cX7_isBelow 35 = .ok (.iload 7, 2) := by decide +kernel
theorem dX7_isBelow_37 : decode cX7_isBelow 37 = .ok (.aload_n 0, 1) := by decide +kernel
theorem dX7_isBelow_38 : decode cX7_isBelow 38 = .ok (.getfield 7, 3) := by decide +kernel
theorem dX7_isBelow_41 : decode cX7_isBelow 41 = .ok (.if_icmp .gt 99, 3) := by decide +kernel
theorem dX7_isBelow_44 : decode cX7_isBelow 44 = .ok (.aload_n 0, 1) := by decide +kernel
theorem dX7_isBelow_45 : decode cX7_isBelow 45 = .ok (.aload_n 0, 1) := by decide +kernel
theorem dX7_isBelow_46 : decode cX7_isBelow 46 = .ok (.getfield 13, 3) := by decide +kernel
theorem dX7_isBelow_49 : decode cX7_isBelow 49 = .ok (.bipush 25, 2) := by decide +kernel
theorem dX7_isBelow_51 : decode cX7_isBelow 51 = .ok (.iload_n 1, 1) := by decide +kernel
theorem dX7_isBelow_52 : decode cX7_isBelow 52 = .ok (.imul, 1) := by decide +kernel
theorem dX7_isBelow_53 : decode cX7_isBelow 53 = .ok (.aload_n 0, 1) := by decide +kernel
theorem dX7_isBelow_54 : decode cX7_isBelow 54 = .ok (.iload 6, 2) := by decide +kernel
theorem dX7_isBelow_56 : decode cX7_isBelow 56 = .ok (.iload 7, 2) := by decide +kernel
theorem dX7_isBelow_58 : decode cX7_isBelow 58 = .ok (.invokevirtual 125, 3) := by decide +kernel
theorem dX7_isBelow_61 : decode cX7_isBelow 61 = .ok (.iadd, 1) := by decide +kernel
theorem dX7_isBelow_62 : decode cX7_isBelow 62 = .ok (.iaload, 1) := by decide +kernel
theorem dX7_isBelow_63 : decode cX7_isBelow 63 = .ok (.i2l, 1) := by decide +kernel
theorem dX7_isBelow_64 : decode cX7_isBelow 64 = .ok (.lconst 1, 1) := by decide +kernel
theorem dX7_isBelow_65 : decode cX7_isBelow 65 = .ok (.aload_n 0, 1) := by decide +kernel
theorem dX7_isBelow_66 : decode cX7_isBelow 66 = .ok (.getfield 76, 3) := by decide +kernel
theorem dX7_isBelow_69 : decode cX7_isBelow 69 = .ok (.iload 6, 2) := by decide +kernel
theorem dX7_isBelow_71 : decode cX7_isBelow 71 = .ok (.laload, 1) := by decide +kernel
theorem dX7_isBelow_72 : decode cX7_isBelow 72 = .ok (.aload_n 0, 1) := by decide +kernel
theorem dX7_isBelow_73 : decode cX7_isBelow 73 = .ok (.getfield 79, 3) := by decide +kernel
theorem dX7_isBelow_76 : decode cX7_isBelow 76 = .ok (.iload 6, 2) := by decide +kernel
theorem dX7_isBelow_78 : decode cX7_isBelow 78 = .ok (.laload, 1) := by decide +kernel
theorem dX7_isBelow_79 : decode cX7_isBelow 79 = .ok (.invokevirtual 179, 3) := by decide +kernel
theorem dX7_isBelow_82 : decode cX7_isBelow 82 = .ok (.aload_n 0, 1) := by decide +kernel
theorem dX7_isBelow_83 : decode cX7_isBelow 83 = .ok (.aload_n 0, 1) := by decide +kernel
theorem dX7_isBelow_84 : decode cX7_isBelow 84 = .ok (.getfield 147, 3) := by decide +kernel
theorem dX7_isBelow_87 : decode cX7_isBelow 87 = .ok (.aload_n 0, 1) := by decide +kernel
theorem dX7_isBelow_88 : decode cX7_isBelow 88 = .ok (.getfield 151, 3) := by decide +kernel
theorem dX7_isBelow_91 : decode cX7_isBelow 91 = .ok (.aload_n 0, 1) := by decide +kernel
theorem dX7_isBelow_92 : decode cX7_isBelow 92 = .ok (.getfield 76, 3) := by decide +kernel
theorem dX7_isBelow_95 : decode cX7_isBelow 95 = .ok (.iload 7, 2) := by decide +kernel
theorem dX7_isBelow_97 : decode cX7_isBelow 97 = .ok (.laload, 1) := by decide +kernel
theorem dX7_isBelow_98 : decode cX7_isBelow 98 = .ok (.aload_n 0, 1) := by decide +kernel
theorem dX7_isBelow_99 : decode cX7_isBelow 99 = .ok (.getfield 79, 3) := by decide +kernel
theorem dX7_isBelow_102 : decode cX7_isBelow 102 = .ok (.iload 7, 2) := by decide +kernel
theorem dX7_isBelow_104 : decode cX7_isBelow 104 = .ok (.laload, 1) := by decide +kernel
theorem dX7_isBelow_105 : decode cX7_isBelow 105 = .ok (.invokevirtual 179, 3) := by decide +kernel
theorem dX7_isBelow_108 : decode cX7_isBelow 108 = .ok (.aload_n 0, 1) := by decide +kernel
theorem dX7_isBelow_109 : decode cX7_isBelow 109 = .ok (.lload_n 2, 1) := by decide +kernel
theorem dX7_isBelow_110 : decode cX7_isBelow 110 = .ok (.lload 4, 2) := by decide +kernel
theorem dX7_isBelow_112 : decode cX7_isBelow 112 = .ok (.aload_n 0, 1) := by decide +kernel
theorem dX7_isBelow_113 : decode cX7_isBelow 113 = .ok (.getfield 147, 3) := by decide +kernel
theorem dX7_isBelow_116 : decode cX7_isBelow 116 = .ok (.aload_n 0, 1) := by decide +kernel
theorem dX7_isBelow_117 : decode cX7_isBelow 117 = .ok (.getfield 151, 3) := by decide +kernel
theorem dX7_isBelow_120 : decode cX7_isBelow 120 = .ok (.invokevirtual 224, 3) := by decide +kernel
theorem dX7_isBelow_123 : decode cX7_isBelow 123 = .ok (.aload_n 0, 1) := by decide +kernel
theorem dX7_isBelow_124 : decode cX7_isBelow 124 = .ok (.getfield 147, 3) := by decide +kernel
theorem dX7_isBelow_127 : decode cX7_isBelow 127 = .ok (.lstore_n 2, 1) := by decide +kernel
theorem dX7_isBelow_128 : decode cX7_isBelow 128 = .ok (.aload_n 0, 1) := by decide +kernel
theorem dX7_isBelow_129 : decode cX7_isBelow 129 = .ok (.getfield 151, 3) := by decide +kernel
theorem dX7_isBelow_132 : decode cX7_isBelow 132 = .ok (.lstore 4, 2) := by decide +kernel
theorem dX7_isBelow_134 : decode cX7_isBelow 134 = .ok (.iinc 7 1, 3) := by decide +kernel
theorem dX7_isBelow_137 : decode cX7_isBelow 137 = .ok (.goto (-102), 3) := by decide +kernel
theorem dX7_isBelow_140 : decode cX7_isBelow 140 = .ok (.iinc 6 1, 3) := by decide +kernel
theorem dX7_isBelow_143 : decode cX7_isBelow 143 = .ok (.goto (-121), 3) := by decide +kernel
theorem dX7_isBelow_146 : decode cX7_isBelow 146 = .ok (.lload_n 2, 1) := by decide +kernel
theorem dX7_isBelow_147 : decode cX7_isBelow 147 = .ok (.lconst 0, 1) := by decide +kernel
theorem dX7_isBelow_148 : decode cX7_isBelow 148 = .ok (.lcmp, 1) := by decide +kernel
theorem dX7_isBelow_149 : decode cX7_isBelow 149 = .ok (.ifCond .ge 7, 3) := by decide +kernel
theorem dX7_isBelow_152 : decode cX7_isBelow 152 = .ok (.iconst 1, 1) := by decide +kernel
theorem dX7_isBelow_153 : decode cX7_isBelow 153 = .ok (.goto 4, 3) := by decide +kernel
theorem dX7_isBelow_156 : decode cX7_isBelow 156 = .ok (.iconst 0, 1) := by decide +kernel
theorem dX7_isBelow_157 : decode cX7_isBelow 157 = .ok (.ireturn, 1) := by decide +kernel
theorem dX7_beginProof_0 : decode cX7_beginProof 0 = .ok (.aload_n 0, 1) := by decide +kernel
theorem dX7_beginProof_1 : decode cX7_beginProof 1 = .ok (.dup, 1) := by decide +kernel
theorem dX7_beginProof_2 : decode cX7_beginProof 2 = .ok (.getfield 106, 3) := by decide +kernel
theorem dX7_beginProof_5 : decode cX7_beginProof 5 = .ok (.iconst 1, 1) := by decide +kernel
theorem dX7_beginProof_6 : decode cX7_beginProof 6 = .ok (.iadd, 1) := by decide +kernel
theorem dX7_beginProof_7 : decode cX7_beginProof 7 = .ok (.putfield 106, 3) := by decide +kernel
theorem dX7_beginProof_10 : decode cX7_beginProof 10 = .ok (.aload_n 0, 1) := by decide +kernel
theorem dX7_beginProof_11 : decode cX7_beginProof 11 = .ok (.iload_n 1, 1) := by decide +kernel
theorem dX7_beginProof_12 : decode cX7_beginProof 12 = .ok (.putfield 236, 3) := by decide +kernel
theorem dX7_beginProof_15 : decode cX7_beginProof 15 = .ok (.aload_n 0, 1) := by decide +kernel
theorem dX7_beginProof_16 : decode cX7_beginProof 16 = .ok (.iload_n 2, 1) := by decide +kernel
theorem dX7_beginProof_17 : decode cX7_beginProof 17 = .ok (.putfield 239, 3) := by decide +kernel
theorem dX7_beginProof_20 : decode cX7_beginProof 20 = .ok (.aload_n 0, 1) := by decide +kernel
theorem dX7_beginProof_21 : decode cX7_beginProof 21 = .ok (.iconst 0, 1) := by decide +kernel
theorem dX7_beginProof_22 : decode cX7_beginProof 22 = .ok (.putfield 242, 3) := by decide +kernel
theorem dX7_beginProof_25 : decode cX7_beginProof 25 = .ok (.aload_n 0, 1) := by decide +kernel
theorem dX7_beginProof_26 : decode cX7_beginProof 26 = .ok (.iconst 1, 1) := by decide +kernel
theorem dX7_beginProof_27 : decode cX7_beginProof 27 = .ok (.putfield 245, 3) := by decide +kernel
theorem dX7_beginProof_30 : decode cX7_beginProof 30 = .ok (.aload_n 0, 1) := by decide +kernel
theorem dX7_beginProof_31 : decode cX7_beginProof 31 = .ok (.iconst 0, 1) := by decide +kernel
theorem dX7_beginProof_32 : decode cX7_beginProof 32 = .ok (.putfield 248, 3) := by decide +kernel
theorem dX7_beginProof_35 : decode cX7_beginProof 35 = .ok (.aload_n 0, 1) := by decide +kernel
theorem dX7_beginProof_36 : decode cX7_beginProof 36 = .ok (.iconst 0, 1) := by decide +kernel
theorem dX7_beginProof_37 : decode cX7_beginProof 37 = .ok (.putfield 112, 3) := by decide +kernel
theorem dX7_beginProof_40 : decode cX7_beginProof 40 = .ok (.return_, 1) := by decide +kernel
theorem dX7_end_0 : decode cX7_end 0 = .ok (.aload_n 0, 1) := by decide +kernel
theorem dX7_end_1 : decode cX7_end 1 = .ok (.iload_n 1, 1) := by decide +kernel
theorem dX7_end_2 : decode cX7_end 2 = .ok (.putfield 94, 3) := by decide +kernel
theorem dX7_end_5 : decode cX7_end 5 = .ok (.aload_n 0, 1) := by decide +kernel
theorem dX7_end_6 : decode cX7_end 6 = .ok (.iload_n 1, 1) := by decide +kernel
theorem dX7_end_7 : decode cX7_end 7 = .ok (.iconst 1, 1) := by decide +kernel
theorem dX7_end_8 : decode cX7_end 8 = .ok (.if_icmp .ne 10, 3) := by decide +kernel
theorem dX7_end_11 : decode cX7_end 11 = .ok (.aload_n 0, 1) := by decide +kernel
theorem dX7_end_12 : decode cX7_end 12 = .ok (.getfield 109, 3) := by decide +kernel
theorem dX7_end_15 : decode cX7_end 15 = .ok (.goto 4, 3) := by decide +kernel
theorem dX7_end_18 : decode cX7_end 18 = .ok (.iconst 0, 1) := by decide +kernel
theorem dX7_end_19 : decode cX7_end 19 = .ok (.putfield 109, 3) := by decide +kernel
theorem dX7_end_22 : decode cX7_end 22 = .ok (.aload_n 0, 1) := by decide +kernel
theorem dX7_end_23 : decode cX7_end 23 = .ok (.iload_n 1, 1) := by decide +kernel
theorem dX7_end_24 : decode cX7_end 24 = .ok (.ifCond .ne 7, 3) := by decide +kernel
theorem dX7_end_27 : decode cX7_end 27 = .ok (.iconst 1, 1) := by decide +kernel
theorem dX7_end_28 : decode cX7_end 28 = .ok (.goto 4, 3) := by decide +kernel
theorem dX7_end_31 : decode cX7_end 31 = .ok (.iconst 0, 1) := by decide +kernel
theorem dX7_end_32 : decode cX7_end 32 = .ok (.putfield 112, 3) := by decide +kernel
theorem dX7_end_35 : decode cX7_end 35 = .ok (.iload_n 1, 1) := by decide +kernel
theorem dX7_end_36 : decode cX7_end 36 = .ok (.ireturn, 1) := by decide +kernel
theorem dX7_prove_0 : decode cX7_prove 0 = .ok (.aload_n 0, 1) := by decide +kernel
theorem dX7_prove_1 : decode cX7_prove 1 = .ok (.iload_n 1, 1) := by decide +kernel
theorem dX7_prove_2 : decode cX7_prove 2 = .ok (.invokevirtual 116, 3) := by decide +kernel
theorem dX7_prove_5 : decode cX7_prove 5 = .ok (.ifCond .ne 5, 3) := by decide +kernel
theorem dX7_prove_8 : decode cX7_prove 8 = .ok (.iconst (-1), 1) := by decide +kernel
theorem dX7_prove_9 : decode cX7_prove 9 = .ok (.ireturn, 1) := by decide +kernel
theorem dX7_prove_10 : decode cX7_prove 10 = .ok (.aload_n 0, 1) := by decide +kernel
theorem dX7_prove_11 : decode cX7_prove 11 = .ok (.iload_n 1, 1) := by decide +kernel
theorem dX7_prove_12 : decode cX7_prove 12 = .ok (.iconst (-1), 1) := by decide +kernel
theorem dX7_prove_13 : decode cX7_prove 13 = .ok (.invokevirtual 251, 3) := by decide +kernel
theorem dX7_prove_16 : decode cX7_prove 16 = .ok (.aload_n 0, 1) := by decide +kernel
theorem dX7_prove_17 : decode cX7_prove 17 = .ok (.iload_n 1, 1) := by decide +kernel
theorem dX7_prove_18 : decode cX7_prove 18 = .ok (.invokevirtual 215, 3) := by decide +kernel
theorem dX7_prove_21 : decode cX7_prove 21 = .ok (.aload_n 0, 1) := by decide +kernel
theorem dX7_prove_22 : decode cX7_prove 22 = .ok (.invokevirtual 254, 3) := by decide +kernel
theorem dX7_prove_25 : decode cX7_prove 25 = .ok (.aload_n 0, 1) := by decide +kernel
theorem dX7_prove_26 : decode cX7_prove 26 = .ok (.invokevirtual 257, 3) := by decide +kernel
theorem dX7_prove_29 : decode cX7_prove 29 = .ok (.istore_n 2, 1) := by decide +kernel
theorem dX7_prove_30 : decode cX7_prove 30 = .ok (.iload_n 2, 1) := by decide +kernel
theorem dX7_prove_31 : decode cX7_prove 31 = .ok (.ifCond .ne 17, 3) := by decide +kernel
theorem dX7_prove_34 : decode cX7_prove 34 = .ok (.aload_n 0, 1) := by decide +kernel
theorem dX7_prove_35 : decode cX7_prove 35 = .ok (.iload_n 1, 1) := by decide +kernel
theorem dX7_prove_36 : decode cX7_prove 36 = .ok (.invokevirtual 261, 3) := by decide +kernel
theorem dX7_prove_39 : decode cX7_prove 39 = .ok (.ifCond .eq 7, 3) := by decide +kernel
theorem dX7_prove_42 : decode cX7_prove 42 = .ok (.iconst 0, 1) := by decide +kernel
theorem dX7_prove_43 : decode cX7_prove 43 = .ok (.goto 4, 3) := by decide +kernel
theorem dX7_prove_46 : decode cX7_prove 46 = .ok (.iconst 2, 1) := by decide +kernel
theorem dX7_prove_47 : decode cX7_prove 47 = .ok (.istore_n 2, 1) := by decide +kernel
theorem dX7_prove_48 : decode cX7_prove 48 = .ok (.aload_n 0, 1) := by decide +kernel
theorem dX7_prove_49 : decode cX7_prove 49 = .ok (.iload_n 2, 1) := by decide +kernel
theorem dX7_prove_50 : decode cX7_prove 50 = .ok (.invokevirtual 264, 3) := by decide +kernel
theorem dX7_prove_53 : decode cX7_prove 53 = .ok (.ireturn, 1) := by decide +kernel
theorem dX7_isLowest_0 : decode cX7_isLowest 0 = .ok (.iload_n 1, 1) := by decide +kernel
theorem dX7_isLowest_1 : decode cX7_isLowest 1 = .ok (.istore_n 3, 1) := by decide +kernel
theorem dX7_isLowest_2 : decode cX7_isLowest 2 = .ok (.iload_n 2, 1) := by decide +kernel
theorem dX7_isLowest_3 : decode cX7_isLowest 3 = .ok (.istore 4, 2) := by decide +kernel
theorem dX7_isLowest_5 : decode cX7_isLowest 5 = .ok (.iload 4, 2) := by decide +kernel
theorem dX7_isLowest_7 : decode cX7_isLowest 7 = .ok (.ifCond .eq 19, 3) := by decide +kernel
theorem dX7_isLowest_10 : decode cX7_isLowest 10 = .ok (.iload_n 3, 1) := by decide +kernel
theorem dX7_isLowest_11 : decode cX7_isLowest 11 = .ok (.iload 4, 2) := by decide +kernel
theorem dX7_isLowest_13 : decode cX7_isLowest 13 = .ok (.irem, 1) := by decide +kernel
theorem dX7_isLowest_14 : decode cX7_isLowest 14 = .ok (.istore 5, 2) := by decide +kernel
theorem dX7_isLowest_16 : decode cX7_isLowest 16 = .ok (.iload 4, 2) := by decide +kernel
theorem dX7_isLowest_18 : decode cX7_isLowest 18 = .ok (.istore_n 3, 1) := by decide +kernel
theorem dX7_isLowest_19 : decode cX7_isLowest 19 = .ok (.iload 5, 2) := by decide +kernel
theorem dX7_isLowest_21 : decode cX7_isLowest 21 = .ok (.istore 4, 2) := by decide +kernel
theorem dX7_isLowest_23 : decode cX7_isLowest 23 = .ok (.goto (-18), 3) := by decide +kernel
theorem dX7_isLowest_26 : decode cX7_isLowest 26 = .ok (.iload_n 3, 1) := by decide +kernel
theorem dX7_isLowest_27 : decode cX7_isLowest 27 = .ok (.iconst 1, 1) := by decide +kernel
theorem dX7_isLowest_28 : decode cX7_isLowest 28 = .ok (.if_icmp .ne 7, 3) := by decide +kernel
theorem dX7_isLowest_31 : decode cX7_isLowest 31 = .ok (.iconst 1, 1) := by decide +kernel
theorem dX7_isLowest_32 : decode cX7_isLowest 32 = .ok (.goto 4, 3) := by decide +kernel
theorem dX7_isLowest_35 : decode cX7_isLowest 35 = .ok (.iconst 0, 1) := by decide +kernel
theorem dX7_isLowest_36 : decode cX7_isLowest 36 = .ok (.ireturn, 1) := by decide +kernel
theorem dX7_isDoneBy_0 : decode cX7_isDoneBy 0 = .ok (.aload_n 0, 1) := by decide +kernel
theorem dX7_isDoneBy_1 : decode cX7_isDoneBy 1 = .ok (.aload_n 0, 1) := by decide +kernel
theorem dX7_isDoneBy_2 : decode cX7_isDoneBy 2 = .ok (.getfield 239, 3) := by decide +kernel
theorem dX7_isDoneBy_5 : decode cX7_isDoneBy 5 = .ok (.invokevirtual 215, 3) := by decide +kernel
theorem dX7_isDoneBy_8 : decode cX7_isDoneBy 8 = .ok (.iconst 0, 1) := by decide +kernel
theorem dX7_isDoneBy_9 : decode cX7_isDoneBy 9 = .ok (.istore_n 3, 1) := by decide +kernel
theorem dX7_isDoneBy_10 : decode cX7_isDoneBy 10 = .ok (.iload_n 3, 1) := by decide +kernel
theorem dX7_isDoneBy_11 : decode cX7_isDoneBy 11 = .ok (.bipush 25, 2) := by decide +kernel
theorem dX7_isDoneBy_13 : decode cX7_isDoneBy 13 = .ok (.if_icmp .ge 33, 3) := by decide +kernel
theorem dX7_isDoneBy_16 : decode cX7_isDoneBy 16 = .ok (.aload_n 0, 1) := by decide +kernel
theorem dX7_isDoneBy_17 : decode cX7_isDoneBy 17 = .ok (.getfield 82, 3) := by decide +kernel
theorem dX7_isDoneBy_20 : decode cX7_isDoneBy 20 = .ok (.iload_n 3, 1) := by decide +kernel
theorem dX7_isDoneBy_21 : decode cX7_isDoneBy 21 = .ok (.aload_n 0, 1) := by decide +kernel
theorem dX7_isDoneBy_22 : decode cX7_isDoneBy 22 = .ok (.getfield 20, 3) := by decide +kernel
theorem dX7_isDoneBy_25 : decode cX7_isDoneBy 25 = .ok (.iload_n 3, 1) := by decide +kernel
theorem dX7_isDoneBy_26 : decode cX7_isDoneBy 26 = .ok (.laload, 1) := by decide +kernel
theorem dX7_isDoneBy_27 : decode cX7_isDoneBy 27 = .ok (.lastore, 1) := by decide +kernel
theorem dX7_isDoneBy_28 : decode cX7_isDoneBy 28 = .ok (.aload_n 0, 1) := by decide +kernel
theorem dX7_isDoneBy_29 : decode cX7_isDoneBy 29 = .ok (.getfield 85, 3) := by decide +kernel
theorem dX7_isDoneBy_32 : decode cX7_isDoneBy 32 = .ok (.iload_n 3, 1) := by decide +kernel
theorem dX7_isDoneBy_33 : decode cX7_isDoneBy 33 = .ok (.aload_n 0, 1) := by decide +kernel
theorem dX7_isDoneBy_34 : decode cX7_isDoneBy 34 = .ok (.getfield 24, 3) := by decide +kernel
theorem dX7_isDoneBy_37 : decode cX7_isDoneBy 37 = .ok (.iload_n 3, 1) := by decide +kernel
theorem dX7_isDoneBy_38 : decode cX7_isDoneBy 38 = .ok (.laload, 1) := by decide +kernel
theorem dX7_isDoneBy_39 : decode cX7_isDoneBy 39 = .ok (.lastore, 1) := by decide +kernel
theorem dX7_isDoneBy_40 : decode cX7_isDoneBy 40 = .ok (.iinc 3 1, 3) := by decide +kernel
theorem dX7_isDoneBy_43 : decode cX7_isDoneBy 43 = .ok (.goto (-33), 3) := by decide +kernel
theorem dX7_isDoneBy_46 : decode cX7_isDoneBy 46 = .ok (.aload_n 0, 1) := by decide +kernel
theorem dX7_isDoneBy_47 : decode cX7_isDoneBy 47 = .ok (.aload_n 0, 1) := by decide +kernel
theorem dX7_isDoneBy_48 : decode cX7_isDoneBy 48 = .ok (.getfield 236, 3) := by decide +kernel
theorem dX7_isDoneBy_51 : decode cX7_isDoneBy 51 = .ok (.invokevirtual 215, 3) := by decide +kernel
theorem dX7_isDoneBy_54 : decode cX7_isDoneBy 54 = .ok (.aload_n 0, 1) := by decide +kernel
theorem dX7_isDoneBy_55 : decode cX7_isDoneBy 55 = .ok (.invokevirtual 195, 3) := by decide +kernel
theorem dX7_isDoneBy_58 : decode cX7_isDoneBy 58 = .ok (.iconst 0, 1) := by decide +kernel
theorem dX7_isDoneBy_59 : decode cX7_isDoneBy 59 = .ok (.istore_n 3, 1) := by decide +kernel
theorem dX7_isDoneBy_60 : decode cX7_isDoneBy 60 = .ok (.iload_n 3, 1) := by decide +kernel
theorem dX7_isDoneBy_61 : decode cX7_isDoneBy 61 = .ok (.aload_n 0, 1) := by decide +kernel
theorem dX7_isDoneBy_62 : decode cX7_isDoneBy 62 = .ok (.getfield 7, 3) := by decide +kernel
theorem dX7_isDoneBy_65 : decode cX7_isDoneBy 65 = .ok (.if_icmp .gt 90, 3) := by decide +kernel
theorem dX7_isDoneBy_68 : decode cX7_isDoneBy 68 = .ok (.iload_n 3, 1) := by decide +kernel
theorem dX7_isDoneBy_69 : decode cX7_isDoneBy 69 = .ok (.istore 4, 2) := by decide +kernel
theorem dX7_isDoneBy_71 : decode cX7_isDoneBy 71 = .ok (.iload 4, 2) := by decide +kernel
theorem dX7_isDoneBy_73 : decode cX7_isDoneBy 73 = .ok (.aload_n 0, 1) := by decide +kernel
theorem dX7_isDoneBy_74 : decode cX7_isDoneBy 74 = .ok (.getfield 7, 3) := by decide +kernel
theorem dX7_isDoneBy_77 : decode cX7_isDoneBy 77 = .ok (.if_icmp .gt 72, 3) := by decide +kernel
theorem dX7_isDoneBy_80 : decode cX7_isDoneBy 80 = .ok (.iconst 5, 1) := by decide +kernel
theorem dX7_isDoneBy_81 : decode cX7_isDoneBy 81 = .ok (.iload_n 3, 1) := by decide +kernel
theorem dX7_isDoneBy_82 : decode cX7_isDoneBy 82 = .ok (.imul, 1) := by decide +kernel
theorem dX7_isDoneBy_83 : decode cX7_isDoneBy 83 = .ok (.iload 4, 2) := by decide +kernel
theorem dX7_isDoneBy_85 : decode cX7_isDoneBy 85 = .ok (.iadd, 1) := by decide +kernel
theorem dX7_isDoneBy_86 : decode cX7_isDoneBy 86 = .ok (.istore 5, 2) := by decide +kernel
theorem dX7_isDoneBy_88 : decode cX7_isDoneBy 88 = .ok (.aload_n 0, 1) := by decide +kernel
theorem dX7_isDoneBy_89 : decode cX7_isDoneBy 89 = .ok (.iload_n 1, 1) := by decide +kernel
theorem dX7_isDoneBy_90 : decode cX7_isDoneBy 90 = .ok (.i2l, 1) := by decide +kernel
theorem dX7_isDoneBy_91 : decode cX7_isDoneBy 91 = .ok (.iload_n 2, 1) := by decide +kernel
theorem dX7_isDoneBy_92 : decode cX7_isDoneBy 92 = .ok (.i2l, 1) := by decide +kernel
theorem dX7_isDoneBy_93 : decode cX7_isDoneBy 93 = .ok (.aload_n 0, 1) := by decide +kernel
theorem dX7_isDoneBy_94 : decode cX7_isDoneBy 94 = .ok (.getfield 82, 3) := by decide +kernel
theorem dX7_isDoneBy_97 : decode cX7_isDoneBy 97 = .ok (.iload 5, 2) := by decide +kernel
theorem dX7_isDoneBy_99 : decode cX7_isDoneBy 99 = .ok (.laload, 1) := by decide +kernel
theorem dX7_isDoneBy_100 : decode cX7_isDoneBy 100 = .ok (.aload_n 0, 1) := by decide +kernel
theorem dX7_isDoneBy_101 : decode cX7_isDoneBy 101 = .ok (.getfield 85, 3) := by decide +kernel
theorem dX7_isDoneBy_104 : decode cX7_isDoneBy 104 = .ok (.iload 5, 2) := by decide +kernel
theorem dX7_isDoneBy_106 : decode cX7_isDoneBy 106 = .ok (.laload, 1) := by decide +kernel
theorem dX7_isDoneBy_107 : decode cX7_isDoneBy 107 = .ok (.invokevirtual 179, 3) := by decide +kernel
theorem dX7_isDoneBy_110 : decode cX7_isDoneBy 110 = .ok (.aload_n 0, 1) := by decide +kernel
theorem dX7_isDoneBy_111 : decode cX7_isDoneBy 111 = .ok (.aload_n 0, 1) := by decide +kernel
theorem dX7_isDoneBy_112 : decode cX7_isDoneBy 112 = .ok (.getfield 20, 3) := by decide +kernel
theorem dX7_isDoneBy_115 : decode cX7_isDoneBy 115 = .ok (.iload 5, 2) := by decide +kernel
theorem dX7_isDoneBy_117 : decode cX7_isDoneBy 117 = .ok (.laload, 1) := by decide +kernel
theorem dX7_isDoneBy_118 : decode cX7_isDoneBy 118 = .ok (.aload_n 0, 1) := by decide +kernel
theorem dX7_isDoneBy_119 : decode cX7_isDoneBy 119 = .ok (.getfield 24, 3) := by decide +kernel
theorem dX7_isDoneBy_122 : decode cX7_isDoneBy 122 = .ok (.iload 5, 2) := by decide +kernel
theorem dX7_isDoneBy_124 : decode cX7_isDoneBy 124 = .ok (.laload, 1) := by decide +kernel
theorem dX7_isDoneBy_125 : decode cX7_isDoneBy 125 = .ok (.aload_n 0, 1) := by decide +kernel
theorem dX7_isDoneBy_126 : decode cX7_isDoneBy 126 = .ok (.getfield 147, 3) := by decide +kernel
theorem dX7_isDoneBy_129 : decode cX7_isDoneBy 129 = .ok (.aload_n 0, 1) := by decide +kernel
theorem dX7_isDoneBy_130 : decode cX7_isDoneBy 130 = .ok (.getfield 151, 3) := by decide +kernel
theorem dX7_isDoneBy_133 : decode cX7_isDoneBy 133 = .ok (.invokevirtual 182, 3) := by decide +kernel
theorem dX7_isDoneBy_136 : decode cX7_isDoneBy 136 = .ok (.aload_n 0, 1) := by decide +kernel
theorem dX7_isDoneBy_137 : decode cX7_isDoneBy 137 = .ok (.iload_n 3, 1) := by decide +kernel
theorem dX7_isDoneBy_138 : decode cX7_isDoneBy 138 = .ok (.iload 4, 2) := by decide +kernel
theorem dX7_isDoneBy_140 : decode cX7_isDoneBy 140 = .ok (.invokevirtual 185, 3) := by decide +kernel
theorem dX7_isDoneBy_143 : decode cX7_isDoneBy 143 = .ok (.iinc 4 1, 3) := by decide +kernel
theorem dX7_isDoneBy_146 : decode cX7_isDoneBy 146 = .ok (.goto (-75), 3) := by decide +kernel
theorem dX7_isDoneBy_149 : decode cX7_isDoneBy 149 = .ok (.iinc 3 1, 3) := by decide +kernel
theorem dX7_isDoneBy_152 : decode cX7_isDoneBy 152 = .ok (.goto (-92), 3) := by decide +kernel
theorem dX7_isDoneBy_155 : decode cX7_isDoneBy 155 = .ok (.aload_n 0, 1) := by decide +kernel
theorem dX7_isDoneBy_156 : decode cX7_isDoneBy 156 = .ok (.invokevirtual 154, 3) := by decide +kernel
theorem dX7_isDoneBy_159 : decode cX7_isDoneBy 159 = .ok (.ifCond .eq 5, 3) := by decide +kernel
theorem dX7_isDoneBy_162 : decode cX7_isDoneBy 162 = .ok (.iconst 0, 1) := by decide +kernel
theorem dX7_isDoneBy_163 : decode cX7_isDoneBy 163 = .ok (.ireturn, 1) := by decide +kernel
theorem dX7_isDoneBy_164 : decode cX7_isDoneBy 164 = .ok (.aload_n 0, 1) := by decide +kernel
theorem dX7_isDoneBy_165 : decode cX7_isDoneBy 165 = .ok (.invokevirtual 254, 3) := by decide +kernel
theorem dX7_isDoneBy_168 : decode cX7_isDoneBy 168 = .ok (.aload_n 0, 1) := by decide +kernel
theorem dX7_isDoneBy_169 : decode cX7_isDoneBy 169 = .ok (.invokevirtual 257, 3) := by decide +kernel
theorem dX7_isDoneBy_172 : decode cX7_isDoneBy 172 = .ok (.iconst 1, 1) := by decide +kernel
theorem dX7_isDoneBy_173 : decode cX7_isDoneBy 173 = .ok (.if_icmp .ne 7, 3) := by decide +kernel
theorem dX7_isDoneBy_176 : decode cX7_isDoneBy 176 = .ok (.iconst 1, 1) := by decide +kernel
theorem dX7_isDoneBy_177 : decode cX7_isDoneBy 177 = .ok (.goto 4, 3) := by decide +kernel
theorem dX7_isDoneBy_180 : decode cX7_isDoneBy 180 = .ok (.iconst 0, 1) := by decide +kernel
theorem dX7_isDoneBy_181 : decode cX7_isDoneBy 181 = .ok (.ireturn, 1) := by decide +kernel
theorem dX7_under_0 : decode cX7_under 0 = .ok (.aload_n 0, 1) := by decide +kernel
theorem dX7_under_1 : decode cX7_under 1 = .ok (.iload_n 1, 1) := by decide +kernel
theorem dX7_under_2 : decode cX7_under 2 = .ok (.invokevirtual 116, 3) := by decide +kernel
theorem dX7_under_5 : decode cX7_under 5 = .ok (.ifCond .eq 24, 3) := by decide +kernel
theorem dX7_under_8 : decode cX7_under 8 = .ok (.aload_n 0, 1) := by decide +kernel
theorem dX7_under_9 : decode cX7_under 9 = .ok (.iload_n 2, 1) := by decide +kernel
theorem dX7_under_10 : decode cX7_under 10 = .ok (.invokevirtual 116, 3) := by decide +kernel
theorem dX7_under_13 : decode cX7_under 13 = .ok (.ifCond .eq 16, 3) := by decide +kernel
theorem dX7_under_16 : decode cX7_under 16 = .ok (.aload_n 0, 1) := by decide +kernel
theorem dX7_under_17 : decode cX7_under 17 = .ok (.iload_n 3, 1) := by decide +kernel
theorem dX7_under_18 : decode cX7_under 18 = .ok (.i2l, 1) := by decide +kernel
theorem dX7_under_19 : decode cX7_under 19 = .ok (.lconst 1, 1) := by decide +kernel
theorem dX7_under_20 : decode cX7_under 20 = .ok (.ldc2_w 267, 3) := by decide +kernel
theorem dX7_under_23 : decode cX7_under 23 = .ok (.invokevirtual 100, 3) := by decide +kernel
theorem dX7_under_26 : decode cX7_under 26 = .ok (.ifCond .ne 5, 3) := by decide +kernel
theorem dX7_under_29 : decode cX7_under 29 = .ok (.iconst (-1), 1) := by decide +kernel
theorem dX7_under_30 : decode cX7_under 30 = .ok (.ireturn, 1) := by decide +kernel
theorem dX7_under_31 : decode cX7_under 31 = .ok (.aload_n 0, 1) := by decide +kernel
theorem dX7_under_32 : decode cX7_under 32 = .ok (.iload_n 1, 1) := by decide +kernel
theorem dX7_under_33 : decode cX7_under 33 = .ok (.iload_n 2, 1) := by decide +kernel
theorem dX7_under_34 : decode cX7_under 34 = .ok (.invokevirtual 251, 3) := by decide +kernel
theorem dX7_under_37 : decode cX7_under 37 = .ok (.iconst 1, 1) := by decide +kernel
theorem dX7_under_38 : decode cX7_under 38 = .ok (.istore 4, 2) := by decide +kernel
theorem dX7_under_40 : decode cX7_under 40 = .ok (.iload 4, 2) := by decide +kernel
theorem dX7_under_42 : decode cX7_under 42 = .ok (.iload_n 3, 1) := by decide +kernel
theorem dX7_under_43 : decode cX7_under 43 = .ok (.if_icmp .gt 84, 3) := by decide +kernel
theorem dX7_under_46 : decode cX7_under 46 = .ok (.iconst 1, 1) := by decide +kernel
theorem dX7_under_47 : decode cX7_under 47 = .ok (.istore 5, 2) := by decide +kernel
theorem dX7_under_49 : decode cX7_under 49 = .ok (.iload 5, 2) := by decide +kernel
theorem dX7_under_51 : decode cX7_under 51 = .ok (.iload 4, 2) := by decide +kernel
theorem dX7_under_53 : decode cX7_under 53 = .ok (.if_icmp .gt 68, 3) := by decide +kernel
theorem dX7_under_56 : decode cX7_under 56 = .ok (.aload_n 0, 1) := by decide +kernel
theorem dX7_under_57 : decode cX7_under 57 = .ok (.iload 4, 2) := by decide +kernel
theorem dX7_under_59 : decode cX7_under 59 = .ok (.iload 5, 2) := by decide +kernel
theorem dX7_under_61 : decode cX7_under 61 = .ok (.isub, 1) := by decide +kernel
theorem dX7_under_62 : decode cX7_under 62 = .ok (.iload 5, 2) := by decide +kernel
theorem dX7_under_64 : decode cX7_under 64 = .ok (.invokevirtual 269, 3) := by decide +kernel
theorem dX7_under_67 : decode cX7_under 67 = .ok (.ifCond .eq 48, 3) := by decide +kernel
theorem dX7_under_70 : decode cX7_under 70 = .ok (.aload_n 0, 1) := by decide +kernel
theorem dX7_under_71 : decode cX7_under 71 = .ok (.dup, 1) := by decide +kernel
theorem dX7_under_72 : decode cX7_under 72 = .ok (.getfield 248, 3) := by decide +kernel
theorem dX7_under_75 : decode cX7_under 75 = .ok (.iconst 1, 1) := by decide +kernel
theorem dX7_under_76 : decode cX7_under 76 = .ok (.iadd, 1) := by decide +kernel
theorem dX7_under_77 : decode cX7_under 77 = .ok (.putfield 248, 3) := by decide +kernel
theorem dX7_under_80 : decode cX7_under 80 = .ok (.aload_n 0, 1) := by decide +kernel
theorem dX7_under_81 : decode cX7_under 81 = .ok (.iload 4, 2) := by decide +kernel
theorem dX7_under_83 : decode cX7_under 83 = .ok (.iload 5, 2) := by decide +kernel
theorem dX7_under_85 : decode cX7_under 85 = .ok (.isub, 1) := by decide +kernel
theorem dX7_under_86 : decode cX7_under 86 = .ok (.iload 5, 2) := by decide +kernel
theorem dX7_under_88 : decode cX7_under 88 = .ok (.invokevirtual 273, 3) := by decide +kernel
theorem dX7_under_91 : decode cX7_under 91 = .ok (.ifCond .eq 24, 3) := by decide +kernel
theorem dX7_under_94 : decode cX7_under 94 = .ok (.aload_n 0, 1) := by decide +kernel
theorem dX7_under_95 : decode cX7_under 95 = .ok (.iload 4, 2) := by decide +kernel
theorem dX7_under_97 : decode cX7_under 97 = .ok (.iload 5, 2) := by decide +kernel
theorem dX7_under_99 : decode cX7_under 99 = .ok (.isub, 1) := by decide +kernel
theorem dX7_under_100 : decode cX7_under 100 = .ok (.putfield 242, 3) := by decide +kernel
theorem dX7_under_103 : decode cX7_under 103 = .ok (.aload_n 0, 1) := by decide +kernel
theorem dX7_under_104 : decode cX7_under 104 = .ok (.iload 5, 2) := by decide +kernel
theorem dX7_under_106 : decode cX7_under 106 = .ok (.putfield 245, 3) := by decide +kernel
theorem dX7_under_109 : decode cX7_under 109 = .ok (.aload_n 0, 1) := by decide +kernel
theorem dX7_under_110 : decode cX7_under 110 = .ok (.iconst 1, 1) := by decide +kernel
theorem dX7_under_111 : decode cX7_under 111 = .ok (.invokevirtual 264, 3) := by decide +kernel
theorem dX7_under_114 : decode cX7_under 114 = .ok (.ireturn, 1) := by decide +kernel
theorem dX7_under_115 : decode cX7_under 115 = .ok (.iinc 5 1, 3) := by decide +kernel
theorem dX7_under_118 : decode cX7_under 118 = .ok (.goto (-69), 3) := by decide +kernel
theorem dX7_under_121 : decode cX7_under 121 = .ok (.iinc 4 1, 3) := by decide +kernel
theorem dX7_under_124 : decode cX7_under 124 = .ok (.goto (-84), 3) := by decide +kernel
theorem dX7_under_127 : decode cX7_under 127 = .ok (.aload_n 0, 1) := by decide +kernel
theorem dX7_under_128 : decode cX7_under 128 = .ok (.aload_n 0, 1) := by decide +kernel
theorem dX7_under_129 : decode cX7_under 129 = .ok (.invokevirtual 276, 3) := by decide +kernel
theorem dX7_under_132 : decode cX7_under 132 = .ok (.ifCond .eq 7, 3) := by decide +kernel
theorem dX7_under_135 : decode cX7_under 135 = .ok (.iconst 0, 1) := by decide +kernel
theorem dX7_under_136 : decode cX7_under 136 = .ok (.goto 4, 3) := by decide +kernel
theorem dX7_under_139 : decode cX7_under 139 = .ok (.iconst 2, 1) := by decide +kernel
theorem dX7_under_140 : decode cX7_under 140 = .ok (.invokevirtual 264, 3) := by decide +kernel
theorem dX7_under_143 : decode cX7_under 143 = .ok (.ireturn, 1) := by decide +kernel
theorem dX7_isThere_0 : decode cX7_isThere 0 = .ok (.aload_n 0, 1) := by decide +kernel
theorem dX7_isThere_1 : decode cX7_isThere 1 = .ok (.getfield 17, 3) := by decide +kernel
theorem dX7_isThere_4 : decode cX7_isThere 4 = .ok (.iconst 0, 1) := by decide +kernel
theorem dX7_isThere_5 : decode cX7_isThere 5 = .ok (.iconst 1, 1) := by decide +kernel
theorem dX7_isThere_6 : decode cX7_isThere 6 = .ok (.iastore, 1) := by decide +kernel
theorem dX7_isThere_7 : decode cX7_isThere 7 = .ok (.aload_n 0, 1) := by decide +kernel
theorem dX7_isThere_8 : decode cX7_isThere 8 = .ok (.getfield 7, 3) := by decide +kernel
theorem dX7_isThere_11 : decode cX7_isThere 11 = .ok (.iconst 1, 1) := by decide +kernel
theorem dX7_isThere_12 : decode cX7_isThere 12 = .ok (.if_icmp .ne 8, 3) := by decide +kernel
theorem dX7_isThere_15 : decode cX7_isThere 15 = .ok (.bipush 7, 2) := by decide +kernel
theorem dX7_isThere_17 : decode cX7_isThere 17 = .ok (.goto 33, 3) := by decide +kernel
theorem dX7_isThere_20 : decode cX7_isThere 20 = .ok (.aload_n 0, 1) := by decide +kernel
theorem dX7_isThere_21 : decode cX7_isThere 21 = .ok (.getfield 7, 3) := by decide +kernel
theorem dX7_isThere_24 : decode cX7_isThere 24 = .ok (.iconst 2, 1) := by decide +kernel
theorem dX7_isThere_25 : decode cX7_isThere 25 = .ok (.if_icmp .ne 8, 3) := by decide +kernel
theorem dX7_isThere_28 : decode cX7_isThere 28 = .ok (.bipush 49, 2) := by decide +kernel
theorem dX7_isThere_30 : decode cX7_isThere 30 = .ok (.goto 20, 3) := by decide +kernel
theorem dX7_isThere_33 : decode cX7_isThere 33 = .ok (.aload_n 0, 1) := by decide +kernel
theorem dX7_isThere_34 : decode cX7_isThere 34 = .ok (.getfield 7, 3) := by decide +kernel
theorem dX7_isThere_37 : decode cX7_isThere 37 = .ok (.iconst 3, 1) := by decide +kernel
theorem dX7_isThere_38 : decode cX7_isThere 38 = .ok (.if_icmp .ne 9, 3) := by decide +kernel
theorem dX7_isThere_41 : decode cX7_isThere 41 = .ok (.sipush 343, 3) := by decide +kernel
theorem dX7_isThere_44 : decode cX7_isThere 44 = .ok (.goto 6, 3) := by decide +kernel
theorem dX7_isThere_47 : decode cX7_isThere 47 = .ok (.sipush 2401, 3) := by decide +kernel
theorem dX7_isThere_50 : decode cX7_isThere 50 = .ok (.istore_n 1, 1) := by decide +kernel
theorem dX7_isThere_51 : decode cX7_isThere 51 = .ok (.iconst 0, 1) := by decide +kernel
theorem dX7_isThere_52 : decode cX7_isThere 52 = .ok (.istore_n 2, 1) := by decide +kernel
theorem dX7_isThere_53 : decode cX7_isThere 53 = .ok (.iload_n 2, 1) := by decide +kernel
theorem dX7_isThere_54 : decode cX7_isThere 54 = .ok (.iload_n 1, 1) := by decide +kernel
theorem dX7_isThere_55 : decode cX7_isThere 55 = .ok (.if_icmp .ge 115, 3) := by decide +kernel
theorem dX7_isThere_58 : decode cX7_isThere 58 = .ok (.iload_n 2, 1) := by decide +kernel
theorem dX7_isThere_59 : decode cX7_isThere 59 = .ok (.istore_n 3, 1) := by decide +kernel
theorem dX7_isThere_60 : decode cX7_isThere 60 = .ok (.aload_n 0, 1) := by decide +kernel
theorem dX7_isThere_61 : decode cX7_isThere 61 = .ok (.getfield 7, 3) := by decide +kernel
theorem dX7_isThere_64 : decode cX7_isThere 64 = .ok (.istore 4, 2) := by decide +kernel
theorem dX7_isThere_66 : decode cX7_isThere 66 = .ok (.iload 4, 2) := by decide +kernel
theorem dX7_isThere_68 : decode cX7_isThere 68 = .ok (.ifCond .le 27, 3) := by decide +kernel
theorem dX7_isThere_71 : decode cX7_isThere 71 = .ok (.aload_n 0, 1) := by decide +kernel
theorem dX7_isThere_72 : decode cX7_isThere 72 = .ok (.getfield 17, 3) := by decide +kernel
theorem dX7_isThere_75 : decode cX7_isThere 75 = .ok (.iload 4, 2) := by decide +kernel
theorem dX7_isThere_77 : decode cX7_isThere 77 = .ok (.iload_n 3, 1) := by decide +kernel
theorem dX7_isThere_78 : decode cX7_isThere 78 = .ok (.bipush 7, 2) := by decide +kernel
theorem dX7_isThere_80 : decode cX7_isThere 80 = .ok (.irem, 1) := by decide +kernel
theorem dX7_isThere_81 : decode cX7_isThere 81 = .ok (.iconst 3, 1) := by decide +kernel
theorem dX7_isThere_82 : decode cX7_isThere 82 = .ok (.isub, 1) := by decide +kernel
theorem dX7_isThere_83 : decode cX7_isThere 83 = .ok (.iastore, 1) := by decide +kernel
theorem dX7_isThere_84 : decode cX7_isThere 84 = .ok (.iload_n 3, 1) := by decide +kernel
theorem dX7_isThere_85 : decode cX7_isThere 85 = .ok (.bipush 7, 2) := by decide +kernel
theorem dX7_isThere_87 : decode cX7_isThere 87 = .ok (.idiv, 1) := by decide +kernel
theorem dX7_isThere_88 : decode cX7_isThere 88 = .ok (.istore_n 3, 1) := by decide +kernel
theorem dX7_isThere_89 : decode cX7_isThere 89 = .ok (.iinc 4 (-1), 3) := by decide +kernel
theorem dX7_isThere_92 : decode cX7_isThere 92 = .ok (.goto (-26), 3) := by decide +kernel
theorem dX7_isThere_95 : decode cX7_isThere 95 = .ok (.aload_n 0, 1) := by decide +kernel
theorem dX7_isThere_96 : decode cX7_isThere 96 = .ok (.aload_n 0, 1) := by decide +kernel
theorem dX7_isThere_97 : decode cX7_isThere 97 = .ok (.getfield 239, 3) := by decide +kernel
theorem dX7_isThere_100 : decode cX7_isThere 100 = .ok (.invokevirtual 133, 3) := by decide +kernel
theorem dX7_isThere_103 : decode cX7_isThere 103 = .ok (.lconst 0, 1) := by decide +kernel
theorem dX7_isThere_104 : decode cX7_isThere 104 = .ok (.lcmp, 1) := by decide +kernel
theorem dX7_isThere_105 : decode cX7_isThere 105 = .ok (.ifCond .lt 59, 3) := by decide +kernel
theorem dX7_isThere_108 : decode cX7_isThere 108 = .ok (.aload_n 0, 1) := by decide +kernel
theorem dX7_isThere_109 : decode cX7_isThere 109 = .ok (.aload_n 0, 1) := by decide +kernel
theorem dX7_isThere_110 : decode cX7_isThere 110 = .ok (.getfield 236, 3) := by decide +kernel
theorem dX7_isThere_113 : decode cX7_isThere 113 = .ok (.invokevirtual 133, 3) := by decide +kernel
theorem dX7_isThere_116 : decode cX7_isThere 116 = .ok (.lconst 0, 1) := by decide +kernel
theorem dX7_isThere_117 : decode cX7_isThere 117 = .ok (.lcmp, 1) := by decide +kernel
theorem dX7_isThere_118 : decode cX7_isThere 118 = .ok (.ifCond .ge 46, 3) := by decide +kernel
theorem dX7_isThere_121 : decode cX7_isThere 121 = .ok (.iconst 1, 1) := by decide +kernel
theorem dX7_isThere_122 : decode cX7_isThere 122 = .ok (.istore 4, 2) := by decide +kernel
theorem dX7_isThere_124 : decode cX7_isThere 124 = .ok (.iload 4, 2) := by decide +kernel
theorem dX7_isThere_126 : decode cX7_isThere 126 = .ok (.aload_n 0, 1) := by decide +kernel
theorem dX7_isThere_127 : decode cX7_isThere 127 = .ok (.getfield 7, 3) := by decide +kernel
theorem dX7_isThere_130 : decode cX7_isThere 130 = .ok (.if_icmp .gt 32, 3) := by decide +kernel
theorem dX7_isThere_133 : decode cX7_isThere 133 = .ok (.aload_n 0, 1) := by decide +kernel
theorem dX7_isThere_134 : decode cX7_isThere 134 = .ok (.getfield 76, 3) := by decide +kernel
theorem dX7_isThere_137 : decode cX7_isThere 137 = .ok (.iload 4, 2) := by decide +kernel
theorem dX7_isThere_139 : decode cX7_isThere 139 = .ok (.aload_n 0, 1) := by decide +kernel
theorem dX7_isThere_140 : decode cX7_isThere 140 = .ok (.getfield 17, 3) := by decide +kernel
theorem dX7_isThere_143 : decode cX7_isThere 143 = .ok (.iload 4, 2) := by decide +kernel
theorem dX7_isThere_145 : decode cX7_isThere 145 = .ok (.iaload, 1) := by decide +kernel
theorem dX7_isThere_146 : decode cX7_isThere 146 = .ok (.i2l, 1) := by decide +kernel
theorem dX7_isThere_147 : decode cX7_isThere 147 = .ok (.lastore, 1) := by decide +kernel
theorem dX7_isThere_148 : decode cX7_isThere 148 = .ok (.aload_n 0, 1) := by decide +kernel
theorem dX7_isThere_149 : decode cX7_isThere 149 = .ok (.getfield 79, 3) := by decide +kernel
theorem dX7_isThere_152 : decode cX7_isThere 152 = .ok (.iload 4, 2) := by decide +kernel
theorem dX7_isThere_154 : decode cX7_isThere 154 = .ok (.lconst 1, 1) := by decide +kernel
theorem dX7_isThere_155 : decode cX7_isThere 155 = .ok (.lastore, 1) := by decide +kernel
theorem dX7_isThere_156 : decode cX7_isThere 156 = .ok (.iinc 4 1, 3) := by decide +kernel
theorem dX7_isThere_159 : decode cX7_isThere 159 = .ok (.goto (-35), 3) := by decide +kernel
theorem dX7_isThere_162 : decode cX7_isThere 162 = .ok (.iconst 1, 1) := by decide +kernel
theorem dX7_isThere_163 : decode cX7_isThere 163 = .ok (.ireturn, 1) := by decide +kernel
theorem dX7_isThere_164 : decode cX7_isThere 164 = .ok (.iinc 2 1, 3) := by decide +kernel
theorem dX7_isThere_167 : decode cX7_isThere 167 = .ok (.goto (-114), 3) := by decide +kernel
theorem dX7_isThere_170 : decode cX7_isThere 170 = .ok (.iconst 0, 1) := by decide +kernel
theorem dX7_isThere_171 : decode cX7_isThere 171 = .ok (.ireturn, 1) := by decide +kernel
theorem dX7_told_0 : decode cX7_told 0 = .ok (.aload_n 0, 1) := by decide +kernel
theorem dX7_told_1 : decode cX7_told 1 = .ok (.iload_n 1, 1) := by decide +kernel
theorem dX7_told_2 : decode cX7_told 2 = .ok (.i2l, 1) := by decide +kernel
theorem dX7_told_3 : decode cX7_told 3 = .ok (.lconst 0, 1) := by decide +kernel
theorem dX7_told_4 : decode cX7_told 4 = .ok (.ldc2_w 279, 3) := by decide +kernel
theorem dX7_told_7 : decode cX7_told 7 = .ok (.invokevirtual 100, 3) := by decide +kernel
theorem dX7_told_10 : decode cX7_told 10 = .ok (.ifCond .ne 5, 3) := by decide +kernel
theorem dX7_told_13 : decode cX7_told 13 = .ok (.iconst (-1), 1) := by decide +kernel
theorem dX7_told_14 : decode cX7_told 14 = .ok (.ireturn, 1) := by decide +kernel
theorem dX7_told_15 : decode cX7_told 15 = .ok (.aload_n 0, 1) := by decide +kernel
theorem dX7_told_16 : decode cX7_told 16 = .ok (.getfield 94, 3) := by decide +kernel
theorem dX7_told_19 : decode cX7_told 19 = .ok (.ifCond .ge 6, 3) := by decide +kernel
theorem dX7_told_22 : decode cX7_told 22 = .ok (.bipush (-2), 2) := by decide +kernel
theorem dX7_told_24 : decode cX7_told 24 = .ok (.ireturn, 1) := by decide +kernel
theorem dX7_told_25 : decode cX7_told 25 = .ok (.iload_n 1, 1) := by decide +kernel
theorem dX7_told_26 : decode cX7_told 26 = .ok (.tableswitch 68 0 5 #[38, 43, 48, 53, 58, 63], 38) := by decide +kernel
theorem dX7_told_64 : decode cX7_told 64 = .ok (.aload_n 0, 1) := by decide +kernel
theorem dX7_told_65 : decode cX7_told 65 = .ok (.getfield 94, 3) := by decide +kernel
theorem dX7_told_68 : decode cX7_told 68 = .ok (.ireturn, 1) := by decide +kernel
theorem dX7_told_69 : decode cX7_told 69 = .ok (.aload_n 0, 1) := by decide +kernel
theorem dX7_told_70 : decode cX7_told 70 = .ok (.getfield 109, 3) := by decide +kernel
theorem dX7_told_73 : decode cX7_told 73 = .ok (.ireturn, 1) := by decide +kernel
theorem dX7_told_74 : decode cX7_told 74 = .ok (.aload_n 0, 1) := by decide +kernel
theorem dX7_told_75 : decode cX7_told 75 = .ok (.getfield 236, 3) := by decide +kernel
theorem dX7_told_78 : decode cX7_told 78 = .ok (.ireturn, 1) := by decide +kernel
theorem dX7_told_79 : decode cX7_told 79 = .ok (.aload_n 0, 1) := by decide +kernel
theorem dX7_told_80 : decode cX7_told 80 = .ok (.getfield 239, 3) := by decide +kernel
theorem dX7_told_83 : decode cX7_told 83 = .ok (.ireturn, 1) := by decide +kernel
theorem dX7_told_84 : decode cX7_told 84 = .ok (.aload_n 0, 1) := by decide +kernel
theorem dX7_told_85 : decode cX7_told 85 = .ok (.getfield 242, 3) := by decide +kernel
theorem dX7_told_88 : decode cX7_told 88 = .ok (.ireturn, 1) := by decide +kernel
theorem dX7_told_89 : decode cX7_told 89 = .ok (.aload_n 0, 1) := by decide +kernel
theorem dX7_told_90 : decode cX7_told 90 = .ok (.getfield 245, 3) := by decide +kernel
theorem dX7_told_93 : decode cX7_told 93 = .ok (.ireturn, 1) := by decide +kernel
theorem dX7_told_94 : decode cX7_told 94 = .ok (.aload_n 0, 1) := by decide +kernel
theorem dX7_told_95 : decode cX7_told 95 = .ok (.getfield 248, 3) := by decide +kernel
theorem dX7_told_98 : decode cX7_told 98 = .ok (.ireturn, 1) := by decide +kernel
theorem dX7_isSquare_0 : decode cX7_isSquare 0 = .ok (.aload_n 0, 1) := by decide +kernel
theorem dX7_isSquare_1 : decode cX7_isSquare 1 = .ok (.iload_n 1, 1) := by decide +kernel
theorem dX7_isSquare_2 : decode cX7_isSquare 2 = .ok (.i2l, 1) := by decide +kernel
theorem dX7_isSquare_3 : decode cX7_isSquare 3 = .ok (.lconst 0, 1) := by decide +kernel
theorem dX7_isSquare_4 : decode cX7_isSquare 4 = .ok (.aload_n 0, 1) := by decide +kernel
theorem dX7_isSquare_5 : decode cX7_isSquare 5 = .ok (.getfield 109, 3) := by decide +kernel
theorem dX7_isSquare_8 : decode cX7_isSquare 8 = .ok (.iconst 1, 1) := by decide +kernel
theorem dX7_isSquare_9 : decode cX7_isSquare 9 = .ok (.isub, 1) := by decide +kernel
theorem dX7_isSquare_10 : decode cX7_isSquare 10 = .ok (.i2l, 1) := by decide +kernel
theorem dX7_isSquare_11 : decode cX7_isSquare 11 = .ok (.invokevirtual 100, 3) := by decide +kernel
theorem dX7_isSquare_14 : decode cX7_isSquare 14 = .ok (.ireturn, 1) := by decide +kernel
theorem dX7_weight_0 : decode cX7_weight 0 = .ok (.aload_n 0, 1) := by decide +kernel
theorem dX7_weight_1 : decode cX7_weight 1 = .ok (.iload_n 1, 1) := by decide +kernel
theorem dX7_weight_2 : decode cX7_weight 2 = .ok (.invokevirtual 281, 3) := by decide +kernel
theorem dX7_weight_5 : decode cX7_weight 5 = .ok (.ifCond .eq 14, 3) := by decide +kernel
theorem dX7_weight_8 : decode cX7_weight 8 = .ok (.aload_n 0, 1) := by decide +kernel
theorem dX7_weight_9 : decode cX7_weight 9 = .ok (.iload_n 2, 1) := by decide +kernel
theorem dX7_weight_10 : decode cX7_weight 10 = .ok (.i2l, 1) := by decide +kernel
theorem dX7_weight_11 : decode cX7_weight 11 = .ok (.lconst 0, 1) := by decide +kernel
theorem dX7_weight_12 : decode cX7_weight 12 = .ok (.lconst 1, 1) := by decide +kernel
theorem dX7_weight_13 : decode cX7_weight 13 = .ok (.invokevirtual 100, 3) := by decide +kernel
theorem dX7_weight_16 : decode cX7_weight 16 = .ok (.ifCond .ne 7, 3) := by decide +kernel
theorem dX7_weight_19 : decode cX7_weight 19 = .ok (.lconst 0, 1) := by decide +kernel
theorem dX7_weight_20 : decode cX7_weight 20 = .ok (.goto 22, 3) := by decide +kernel
theorem dX7_weight_23 : decode cX7_weight 23 = .ok (.iload_n 2, 1) := by decide +kernel
theorem dX7_weight_24 : decode cX7_weight 24 = .ok (.ifCond .ne 12, 3) := by decide +kernel
theorem dX7_weight_27 : decode cX7_weight 27 = .ok (.aload_n 0, 1) := by decide +kernel
theorem dX7_weight_28 : decode cX7_weight 28 = .ok (.getfield 40, 3) := by decide +kernel
theorem dX7_weight_31 : decode cX7_weight 31 = .ok (.iload_n 1, 1) := by decide +kernel
theorem dX7_weight_32 : decode cX7_weight 32 = .ok (.laload, 1) := by decide +kernel
theorem dX7_weight_33 : decode cX7_weight 33 = .ok (.goto 9, 3) := by decide +kernel
theorem dX7_weight_36 : decode cX7_weight 36 = .ok (.aload_n 0, 1) := by decide +kernel
theorem dX7_weight_37 : decode cX7_weight 37 = .ok (.getfield 43, 3) := by decide +kernel
theorem dX7_weight_40 : decode cX7_weight 40 = .ok (.iload_n 1, 1) := by decide +kernel
theorem dX7_weight_41 : decode cX7_weight 41 = .ok (.laload, 1) := by decide +kernel
theorem dX7_weight_42 : decode cX7_weight 42 = .ok (.lreturn, 1) := by decide +kernel
theorem dX7_line_0 : decode cX7_line 0 = .ok (.aload_n 0, 1) := by decide +kernel
theorem dX7_line_1 : decode cX7_line 1 = .ok (.iload_n 1, 1) := by decide +kernel
theorem dX7_line_2 : decode cX7_line 2 = .ok (.invokevirtual 281, 3) := by decide +kernel
theorem dX7_line_5 : decode cX7_line 5 = .ok (.ifCond .eq 29, 3) := by decide +kernel
theorem dX7_line_8 : decode cX7_line 8 = .ok (.aload_n 0, 1) := by decide +kernel
theorem dX7_line_9 : decode cX7_line 9 = .ok (.iload_n 2, 1) := by decide +kernel
theorem dX7_line_10 : decode cX7_line 10 = .ok (.i2l, 1) := by decide +kernel
theorem dX7_line_11 : decode cX7_line 11 = .ok (.lconst 0, 1) := by decide +kernel
theorem dX7_line_12 : decode cX7_line 12 = .ok (.aload_n 0, 1) := by decide +kernel
theorem dX7_line_13 : decode cX7_line 13 = .ok (.getfield 7, 3) := by decide +kernel
theorem dX7_line_16 : decode cX7_line 16 = .ok (.i2l, 1) := by decide +kernel
theorem dX7_line_17 : decode cX7_line 17 = .ok (.invokevirtual 100, 3) := by decide +kernel
theorem dX7_line_20 : decode cX7_line 20 = .ok (.ifCond .eq 14, 3) := by decide +kernel
theorem dX7_line_23 : decode cX7_line 23 = .ok (.aload_n 0, 1) := by decide +kernel
theorem dX7_line_24 : decode cX7_line 24 = .ok (.iload_n 3, 1) := by decide +kernel
theorem dX7_line_25 : decode cX7_line 25 = .ok (.i2l, 1) := by decide +kernel
theorem dX7_line_26 : decode cX7_line 26 = .ok (.lconst 0, 1) := by decide +kernel
theorem dX7_line_27 : decode cX7_line 27 = .ok (.lconst 1, 1) := by decide +kernel
theorem dX7_line_28 : decode cX7_line 28 = .ok (.invokevirtual 100, 3) := by decide +kernel
theorem dX7_line_31 : decode cX7_line 31 = .ok (.ifCond .ne 5, 3) := by decide +kernel
theorem dX7_line_34 : decode cX7_line 34 = .ok (.lconst 0, 1) := by decide +kernel
theorem dX7_line_35 : decode cX7_line 35 = .ok (.lreturn, 1) := by decide +kernel
theorem dX7_line_36 : decode cX7_line 36 = .ok (.iload_n 3, 1) := by decide +kernel
theorem dX7_line_37 : decode cX7_line 37 = .ok (.ifCond .ne 16, 3) := by decide +kernel
theorem dX7_line_40 : decode cX7_line 40 = .ok (.aload_n 0, 1) := by decide +kernel
theorem dX7_line_41 : decode cX7_line 41 = .ok (.getfield 46, 3) := by decide +kernel
theorem dX7_line_44 : decode cX7_line 44 = .ok (.iconst 5, 1) := by decide +kernel
theorem dX7_line_45 : decode cX7_line 45 = .ok (.iload_n 1, 1) := by decide +kernel
theorem dX7_line_46 : decode cX7_line 46 = .ok (.imul, 1) := by decide +kernel
theorem dX7_line_47 : decode cX7_line 47 = .ok (.iload_n 2, 1) := by decide +kernel
theorem dX7_line_48 : decode cX7_line 48 = .ok (.iadd, 1) := by decide +kernel
theorem dX7_line_49 : decode cX7_line 49 = .ok (.laload, 1) := by decide +kernel
theorem dX7_line_50 : decode cX7_line 50 = .ok (.goto 13, 3) := by decide +kernel
theorem dX7_line_53 : decode cX7_line 53 = .ok (.aload_n 0, 1) := by decide +kernel
theorem dX7_line_54 : decode cX7_line 54 = .ok (.getfield 49, 3) := by decide +kernel
theorem dX7_line_57 : decode cX7_line 57 = .ok (.iconst 5, 1) := by decide +kernel
theorem dX7_line_58 : decode cX7_line 58 = .ok (.iload_n 1, 1) := by decide +kernel
theorem dX7_line_59 : decode cX7_line 59 = .ok (.imul, 1) := by decide +kernel
theorem dX7_line_60 : decode cX7_line 60 = .ok (.iload_n 2, 1) := by decide +kernel
theorem dX7_line_61 : decode cX7_line 61 = .ok (.iadd, 1) := by decide +kernel
theorem dX7_line_62 : decode cX7_line 62 = .ok (.laload, 1) := by decide +kernel
theorem dX7_line_63 : decode cX7_line 63 = .ok (.lreturn, 1) := by decide +kernel
theorem dX7_point_0 : decode cX7_point 0 = .ok (.aload_n 0, 1) := by decide +kernel
theorem dX7_point_1 : decode cX7_point 1 = .ok (.getfield 112, 3) := by decide +kernel
theorem dX7_point_4 : decode cX7_point 4 = .ok (.ifCond .eq 29, 3) := by decide +kernel
theorem dX7_point_7 : decode cX7_point 7 = .ok (.aload_n 0, 1) := by decide +kernel
theorem dX7_point_8 : decode cX7_point 8 = .ok (.iload_n 1, 1) := by decide +kernel
theorem dX7_point_9 : decode cX7_point 9 = .ok (.i2l, 1) := by decide +kernel
theorem dX7_point_10 : decode cX7_point 10 = .ok (.lconst 1, 1) := by decide +kernel
theorem dX7_point_11 : decode cX7_point 11 = .ok (.aload_n 0, 1) := by decide +kernel
theorem dX7_point_12 : decode cX7_point 12 = .ok (.getfield 7, 3) := by decide +kernel
theorem dX7_point_15 : decode cX7_point 15 = .ok (.i2l, 1) := by decide +kernel
theorem dX7_point_16 : decode cX7_point 16 = .ok (.invokevirtual 100, 3) := by decide +kernel
theorem dX7_point_19 : decode cX7_point 19 = .ok (.ifCond .eq 14, 3) := by decide +kernel
theorem dX7_point_22 : decode cX7_point 22 = .ok (.aload_n 0, 1) := by decide +kernel
theorem dX7_point_23 : decode cX7_point 23 = .ok (.iload_n 2, 1) := by decide +kernel
theorem dX7_point_24 : decode cX7_point 24 = .ok (.i2l, 1) := by decide +kernel
theorem dX7_point_25 : decode cX7_point 25 = .ok (.lconst 0, 1) := by decide +kernel
theorem dX7_point_26 : decode cX7_point 26 = .ok (.lconst 1, 1) := by decide +kernel
theorem dX7_point_27 : decode cX7_point 27 = .ok (.invokevirtual 100, 3) := by decide +kernel
theorem dX7_point_30 : decode cX7_point 30 = .ok (.ifCond .ne 5, 3) := by decide +kernel
theorem dX7_point_33 : decode cX7_point 33 = .ok (.lconst 0, 1) := by decide +kernel
theorem dX7_point_34 : decode cX7_point 34 = .ok (.lreturn, 1) := by decide +kernel
theorem dX7_point_35 : decode cX7_point 35 = .ok (.iload_n 2, 1) := by decide +kernel
theorem dX7_point_36 : decode cX7_point 36 = .ok (.ifCond .ne 12, 3) := by decide +kernel
theorem dX7_point_39 : decode cX7_point 39 = .ok (.aload_n 0, 1) := by decide +kernel
theorem dX7_point_40 : decode cX7_point 40 = .ok (.getfield 76, 3) := by decide +kernel
theorem dX7_point_43 : decode cX7_point 43 = .ok (.iload_n 1, 1) := by decide +kernel
theorem dX7_point_44 : decode cX7_point 44 = .ok (.laload, 1) := by decide +kernel
theorem dX7_point_45 : decode cX7_point 45 = .ok (.goto 9, 3) := by decide +kernel
theorem dX7_point_48 : decode cX7_point 48 = .ok (.aload_n 0, 1) := by decide +kernel
theorem dX7_point_49 : decode cX7_point 49 = .ok (.getfield 79, 3) := by decide +kernel
theorem dX7_point_52 : decode cX7_point 52 = .ok (.iload_n 1, 1) := by decide +kernel
theorem dX7_point_53 : decode cX7_point 53 = .ok (.laload, 1) := by decide +kernel
theorem dX7_point_54 : decode cX7_point 54 = .ok (.lreturn, 1) := by decide +kernel
theorem dX7_near_0 : decode cX7_near 0 = .ok (.aload_n 0, 1) := by decide +kernel
theorem dX7_near_1 : decode cX7_near 1 = .ok (.iload_n 1, 1) := by decide +kernel
theorem dX7_near_2 : decode cX7_near 2 = .ok (.invokevirtual 281, 3) := by decide +kernel
theorem dX7_near_5 : decode cX7_near 5 = .ok (.ifCond .eq 24, 3) := by decide +kernel
theorem dX7_near_8 : decode cX7_near 8 = .ok (.aload_n 0, 1) := by decide +kernel
theorem dX7_near_9 : decode cX7_near 9 = .ok (.getfield 40, 3) := by decide +kernel
theorem dX7_near_12 : decode cX7_near 12 = .ok (.iload_n 1, 1) := by decide +kernel
theorem dX7_near_13 : decode cX7_near 13 = .ok (.laload, 1) := by decide +kernel
theorem dX7_near_14 : decode cX7_near 14 = .ok (.l2d, 1) := by decide +kernel
theorem dX7_near_15 : decode cX7_near 15 = .ok (.aload_n 0, 1) := by decide +kernel
theorem dX7_near_16 : decode cX7_near 16 = .ok (.getfield 43, 3) := by decide +kernel
theorem dX7_near_19 : decode cX7_near 19 = .ok (.iload_n 1, 1) := by decide +kernel
theorem dX7_near_20 : decode cX7_near 20 = .ok (.laload, 1) := by decide +kernel
theorem dX7_near_21 : decode cX7_near 21 = .ok (.l2d, 1) := by decide +kernel
theorem dX7_near_22 : decode cX7_near 22 = .ok (.ddiv, 1) := by decide +kernel
theorem dX7_near_23 : decode cX7_near 23 = .ok (.invokestatic 284, 3) := by decide +kernel
theorem dX7_near_26 : decode cX7_near 26 = .ok (.goto 4, 3) := by decide +kernel
theorem dX7_near_29 : decode cX7_near 29 = .ok (.lconst 0, 1) := by decide +kernel
theorem dX7_near_30 : decode cX7_near 30 = .ok (.lreturn, 1) := by decide +kernel
theorem dX7_plant_0 : decode cX7_plant 0 = .ok (.aload_n 0, 1) := by decide +kernel
theorem dX7_plant_1 : decode cX7_plant 1 = .ok (.iload_n 1, 1) := by decide +kernel
theorem dX7_plant_2 : decode cX7_plant 2 = .ok (.invokevirtual 281, 3) := by decide +kernel
theorem dX7_plant_5 : decode cX7_plant 5 = .ok (.ifCond .eq 10, 3) := by decide +kernel
theorem dX7_plant_8 : decode cX7_plant 8 = .ok (.lload 4, 2) := by decide +kernel
theorem dX7_plant_10 : decode cX7_plant 10 = .ok (.lconst 0, 1) := by decide +kernel
theorem dX7_plant_11 : decode cX7_plant 11 = .ok (.lcmp, 1) := by decide +kernel
theorem dX7_plant_12 : decode cX7_plant 12 = .ok (.ifCond .ne 5, 3) := by decide +kernel
theorem dX7_plant_15 : decode cX7_plant 15 = .ok (.iconst (-1), 1) := by decide +kernel
theorem dX7_plant_16 : decode cX7_plant 16 = .ok (.ireturn, 1) := by decide +kernel
theorem dX7_plant_17 : decode cX7_plant 17 = .ok (.lload_n 2, 1) := by decide +kernel
theorem dX7_plant_18 : decode cX7_plant 18 = .ok (.ldc2_w 145, 3) := by decide +kernel
theorem dX7_plant_21 : decode cX7_plant 21 = .ok (.lcmp, 1) := by decide +kernel
theorem dX7_plant_22 : decode cX7_plant 22 = .ok (.ifCond .eq 12, 3) := by decide +kernel
theorem dX7_plant_25 : decode cX7_plant 25 = .ok (.lload 4, 2) := by decide +kernel
theorem dX7_plant_27 : decode cX7_plant 27 = .ok (.ldc2_w 145, 3) := by decide +kernel
theorem dX7_plant_30 : decode cX7_plant 30 = .ok (.lcmp, 1) := by decide +kernel
theorem dX7_plant_31 : decode cX7_plant 31 = .ok (.ifCond .ne 6, 3) := by decide +kernel
theorem dX7_plant_34 : decode cX7_plant 34 = .ok (.bipush (-30), 2) := by decide +kernel
theorem dX7_plant_36 : decode cX7_plant 36 = .ok (.ireturn, 1) := by decide +kernel
theorem dX7_plant_37 : decode cX7_plant 37 = .ok (.aload_n 0, 1) := by decide +kernel
theorem dX7_plant_38 : decode cX7_plant 38 = .ok (.invokevirtual 195, 3) := by decide +kernel
theorem dX7_plant_41 : decode cX7_plant 41 = .ok (.aload_n 0, 1) := by decide +kernel
theorem dX7_plant_42 : decode cX7_plant 42 = .ok (.lload_n 2, 1) := by decide +kernel
theorem dX7_plant_43 : decode cX7_plant 43 = .ok (.lload 4, 2) := by decide +kernel
theorem dX7_plant_45 : decode cX7_plant 45 = .ok (.invokevirtual 165, 3) := by decide +kernel
theorem dX7_plant_48 : decode cX7_plant 48 = .ok (.aload_n 0, 1) := by decide +kernel
theorem dX7_plant_49 : decode cX7_plant 49 = .ok (.getfield 40, 3) := by decide +kernel
theorem dX7_plant_52 : decode cX7_plant 52 = .ok (.iload_n 1, 1) := by decide +kernel
theorem dX7_plant_53 : decode cX7_plant 53 = .ok (.aload_n 0, 1) := by decide +kernel
theorem dX7_plant_54 : decode cX7_plant 54 = .ok (.getfield 147, 3) := by decide +kernel
theorem dX7_plant_57 : decode cX7_plant 57 = .ok (.lastore, 1) := by decide +kernel
theorem dX7_plant_58 : decode cX7_plant 58 = .ok (.aload_n 0, 1) := by decide +kernel
theorem dX7_plant_59 : decode cX7_plant 59 = .ok (.getfield 43, 3) := by decide +kernel
theorem dX7_plant_62 : decode cX7_plant 62 = .ok (.iload_n 1, 1) := by decide +kernel
theorem dX7_plant_63 : decode cX7_plant 63 = .ok (.aload_n 0, 1) := by decide +kernel
theorem dX7_plant_64 : decode cX7_plant 64 = .ok (.getfield 151, 3) := by decide +kernel
theorem dX7_plant_67 : decode cX7_plant 67 = .ok (.lastore, 1) := by decide +kernel
theorem dX7_plant_68 : decode cX7_plant 68 = .ok (.iconst 0, 1) := by decide +kernel
theorem dX7_plant_69 : decode cX7_plant 69 = .ok (.ireturn, 1) := by decide +kernel
theorem dX7_check_0 : decode cX7_check 0 = .ok (.aload_n 0, 1) := by decide +kernel
theorem dX7_check_1 : decode cX7_check 1 = .ok (.getfield 94, 3) := by decide +kernel
theorem dX7_check_4 : decode cX7_check 4 = .ok (.iconst 1, 1) := by decide +kernel
theorem dX7_check_5 : decode cX7_check 5 = .ok (.if_icmp .eq 6, 3) := by decide +kernel
theorem dX7_check_8 : decode cX7_check 8 = .ok (.bipush (-2), 2) := by decide +kernel
theorem dX7_check_10 : decode cX7_check 10 = .ok (.ireturn, 1) := by decide +kernel
theorem dX7_check_11 : decode cX7_check 11 = .ok (.aload_n 0, 1) := by decide +kernel
theorem dX7_check_12 : decode cX7_check 12 = .ok (.invokevirtual 195, 3) := by decide +kernel
theorem dX7_check_15 : decode cX7_check 15 = .ok (.iconst 0, 1) := by decide +kernel
theorem dX7_check_16 : decode cX7_check 16 = .ok (.istore_n 1, 1) := by decide +kernel
theorem dX7_check_17 : decode cX7_check 17 = .ok (.iload_n 1, 1) := by decide +kernel
theorem dX7_check_18 : decode cX7_check 18 = .ok (.bipush 25, 2) := by decide +kernel
theorem dX7_check_20 : decode cX7_check 20 = .ok (.if_icmp .ge 23, 3) := by decide +kernel
theorem dX7_check_23 : decode cX7_check 23 = .ok (.aload_n 0, 1) := by decide +kernel
theorem dX7_check_24 : decode cX7_check 24 = .ok (.getfield 88, 3) := by decide +kernel
theorem dX7_check_27 : decode cX7_check 27 = .ok (.iload_n 1, 1) := by decide +kernel
theorem dX7_check_28 : decode cX7_check 28 = .ok (.lconst 0, 1) := by decide +kernel
theorem dX7_check_29 : decode cX7_check 29 = .ok (.lastore, 1) := by decide +kernel
theorem dX7_check_30 : decode cX7_check 30 = .ok (.aload_n 0, 1) := by decide +kernel
theorem dX7_check_31 : decode cX7_check 31 = .ok (.getfield 91, 3) := by decide +kernel
theorem dX7_check_34 : decode cX7_check 34 = .ok (.iload_n 1, 1) := by decide +kernel
theorem dX7_check_35 : decode cX7_check 35 = .ok (.lconst 1, 1) := by decide +kernel
theorem dX7_check_36 : decode cX7_check 36 = .ok (.lastore, 1) := by decide +kernel
theorem dX7_check_37 : decode cX7_check 37 = .ok (.iinc 1 1, 3) := by decide +kernel
theorem dX7_check_40 : decode cX7_check 40 = .ok (.goto (-23), 3) := by decide +kernel
theorem dX7_check_43 : decode cX7_check 43 = .ok (.iconst 0, 1) := by decide +kernel
theorem dX7_check_44 : decode cX7_check 44 = .ok (.istore_n 1, 1) := by decide +kernel
theorem dX7_check_45 : decode cX7_check 45 = .ok (.iload_n 1, 1) := by decide +kernel
theorem dX7_check_46 : decode cX7_check 46 = .ok (.aload_n 0, 1) := by decide +kernel
theorem dX7_check_47 : decode cX7_check 47 = .ok (.getfield 109, 3) := by decide +kernel
theorem dX7_check_50 : decode cX7_check 50 = .ok (.if_icmp .ge 164, 3) := by decide +kernel
theorem dX7_check_53 : decode cX7_check 53 = .ok (.iconst 0, 1) := by decide +kernel
theorem dX7_check_54 : decode cX7_check 54 = .ok (.istore_n 2, 1) := by decide +kernel
theorem dX7_check_55 : decode cX7_check 55 = .ok (.iload_n 2, 1) := by decide +kernel
theorem dX7_check_56 : decode cX7_check 56 = .ok (.aload_n 0, 1) := by decide +kernel
theorem dX7_check_57 : decode cX7_check 57 = .ok (.getfield 7, 3) := by decide +kernel
theorem dX7_check_60 : decode cX7_check 60 = .ok (.if_icmp .gt 148, 3) := by decide +kernel
theorem dX7_check_63 : decode cX7_check 63 = .ok (.iconst 0, 1) := by decide +kernel
theorem dX7_check_64 : decode cX7_check 64 = .ok (.istore_n 3, 1) := by decide +kernel
theorem dX7_check_65 : decode cX7_check 65 = .ok (.iload_n 3, 1) := by decide +kernel
theorem dX7_check_66 : decode cX7_check 66 = .ok (.aload_n 0, 1) := by decide +kernel
theorem dX7_check_67 : decode cX7_check 67 = .ok (.getfield 7, 3) := by decide +kernel
theorem dX7_check_70 : decode cX7_check 70 = .ok (.if_icmp .gt 132, 3) := by decide +kernel
theorem dX7_check_73 : decode cX7_check 73 = .ok (.iconst 5, 1) := by decide +kernel
theorem dX7_check_74 : decode cX7_check 74 = .ok (.iload_n 2, 1) := by decide +kernel
theorem dX7_check_75 : decode cX7_check 75 = .ok (.imul, 1) := by decide +kernel
theorem dX7_check_76 : decode cX7_check 76 = .ok (.iload_n 3, 1) := by decide +kernel
theorem dX7_check_77 : decode cX7_check 77 = .ok (.iadd, 1) := by decide +kernel
theorem dX7_check_78 : decode cX7_check 78 = .ok (.istore 4, 2) := by decide +kernel
theorem dX7_check_80 : decode cX7_check 80 = .ok (.aload_n 0, 1) := by decide +kernel
theorem dX7_check_81 : decode cX7_check 81 = .ok (.aload_n 0, 1) := by decide +kernel
theorem dX7_check_82 : decode cX7_check 82 = .ok (.getfield 40, 3) := by decide +kernel
theorem dX7_check_85 : decode cX7_check 85 = .ok (.iload_n 1, 1) := by decide +kernel
theorem dX7_check_86 : decode cX7_check 86 = .ok (.laload, 1) := by decide +kernel
theorem dX7_check_87 : decode cX7_check 87 = .ok (.aload_n 0, 1) := by decide +kernel
theorem dX7_check_88 : decode cX7_check 88 = .ok (.getfield 43, 3) := by decide +kernel
theorem dX7_check_91 : decode cX7_check 91 = .ok (.iload_n 1, 1) := by decide +kernel
theorem dX7_check_92 : decode cX7_check 92 = .ok (.laload, 1) := by decide +kernel
theorem dX7_check_93 : decode cX7_check 93 = .ok (.aload_n 0, 1) := by decide +kernel
theorem dX7_check_94 : decode cX7_check 94 = .ok (.getfield 46, 3) := by decide +kernel
theorem dX7_check_97 : decode cX7_check 97 = .ok (.iconst 5, 1) := by decide +kernel
theorem dX7_check_98 : decode cX7_check 98 = .ok (.iload_n 1, 1) := by decide +kernel
theorem dX7_check_99 : decode cX7_check 99 = .ok (.imul, 1) := by decide +kernel
theorem dX7_check_100 : decode cX7_check 100 = .ok (.iload_n 2, 1) := by decide +kernel
theorem dX7_check_101 : decode cX7_check 101 = .ok (.iadd, 1) := by decide +kernel
theorem dX7_check_102 : decode cX7_check 102 = .ok (.laload, 1) := by decide +kernel
theorem dX7_check_103 : decode cX7_check 103 = .ok (.aload_n 0, 1) := by decide +kernel
theorem dX7_check_104 : decode cX7_check 104 = .ok (.getfield 49, 3) := by decide +kernel
theorem dX7_check_107 : decode cX7_check 107 = .ok (.iconst 5, 1) := by decide +kernel
theorem dX7_check_108 : decode cX7_check 108 = .ok (.iload_n 1, 1) := by decide +kernel
theorem dX7_check_109 : decode cX7_check 109 = .ok (.imul, 1) := by decide +kernel
theorem dX7_check_110 : decode cX7_check 110 = .ok (.iload_n 2, 1) := by decide +kernel
theorem dX7_check_111 : decode cX7_check 111 = .ok (.iadd, 1) := by decide +kernel
theorem dX7_check_112 : decode cX7_check 112 = .ok (.laload, 1) := by decide +kernel
theorem dX7_check_113 : decode cX7_check 113 = .ok (.invokevirtual 179, 3) := by decide +kernel
theorem dX7_check_116 : decode cX7_check 116 = .ok (.aload_n 0, 1) := by decide +kernel
theorem dX7_check_117 : decode cX7_check 117 = .ok (.aload_n 0, 1) := by decide +kernel
theorem dX7_check_118 : decode cX7_check 118 = .ok (.getfield 147, 3) := by decide +kernel
theorem dX7_check_121 : decode cX7_check 121 = .ok (.aload_n 0, 1) := by decide +kernel
theorem dX7_check_122 : decode cX7_check 122 = .ok (.getfield 151, 3) := by decide +kernel
theorem dX7_check_125 : decode cX7_check 125 = .ok (.aload_n 0, 1) := by decide +kernel
theorem dX7_check_126 : decode cX7_check 126 = .ok (.getfield 46, 3) := by decide +kernel
theorem dX7_check_129 : decode cX7_check 129 = .ok (.iconst 5, 1) := by decide +kernel
theorem dX7_check_130 : decode cX7_check 130 = .ok (.iload_n 1, 1) := by decide +kernel
theorem dX7_check_131 : decode cX7_check 131 = .ok (.imul, 1) := by decide +kernel
theorem dX7_check_132 : decode cX7_check 132 = .ok (.iload_n 3, 1) := by decide +kernel
theorem dX7_check_133 : decode cX7_check 133 = .ok (.iadd, 1) := by decide +kernel
theorem dX7_check_134 : decode cX7_check 134 = .ok (.laload, 1) := by decide +kernel
theorem dX7_check_135 : decode cX7_check 135 = .ok (.aload_n 0, 1) := by decide +kernel
theorem dX7_check_136 : decode cX7_check 136 = .ok (.getfield 49, 3) := by decide +kernel
theorem dX7_check_139 : decode cX7_check 139 = .ok (.iconst 5, 1) := by decide +kernel
theorem dX7_check_140 : decode cX7_check 140 = .ok (.iload_n 1, 1) := by decide +kernel
theorem dX7_check_141 : decode cX7_check 141 = .ok (.imul, 1) := by decide +kernel
theorem dX7_check_142 : decode cX7_check 142 = .ok (.iload_n 3, 1) := by decide +kernel
theorem dX7_check_143 : decode cX7_check 143 = .ok (.iadd, 1) := by decide +kernel
theorem dX7_check_144 : decode cX7_check 144 = .ok (.laload, 1) := by decide +kernel
theorem dX7_check_145 : decode cX7_check 145 = .ok (.invokevirtual 179, 3) := by decide +kernel
theorem dX7_check_148 : decode cX7_check 148 = .ok (.aload_n 0, 1) := by decide +kernel
theorem dX7_check_149 : decode cX7_check 149 = .ok (.aload_n 0, 1) := by decide +kernel
theorem dX7_check_150 : decode cX7_check 150 = .ok (.getfield 88, 3) := by decide +kernel
theorem dX7_check_153 : decode cX7_check 153 = .ok (.iload 4, 2) := by decide +kernel
theorem dX7_check_155 : decode cX7_check 155 = .ok (.laload, 1) := by decide +kernel
theorem dX7_check_156 : decode cX7_check 156 = .ok (.aload_n 0, 1) := by decide +kernel
theorem dX7_check_157 : decode cX7_check 157 = .ok (.getfield 91, 3) := by decide +kernel
theorem dX7_check_160 : decode cX7_check 160 = .ok (.iload 4, 2) := by decide +kernel
theorem dX7_check_162 : decode cX7_check 162 = .ok (.laload, 1) := by decide +kernel
theorem dX7_check_163 : decode cX7_check 163 = .ok (.aload_n 0, 1) := by decide +kernel
theorem dX7_check_164 : decode cX7_check 164 = .ok (.getfield 147, 3) := by decide +kernel
theorem dX7_check_167 : decode cX7_check 167 = .ok (.aload_n 0, 1) := by decide +kernel
theorem dX7_check_168 : decode cX7_check 168 = .ok (.getfield 151, 3) := by decide +kernel
theorem dX7_check_171 : decode cX7_check 171 = .ok (.invokevirtual 224, 3) := by decide +kernel
theorem dX7_check_174 : decode cX7_check 174 = .ok (.aload_n 0, 1) := by decide +kernel
theorem dX7_check_175 : decode cX7_check 175 = .ok (.getfield 88, 3) := by decide +kernel
theorem dX7_check_178 : decode cX7_check 178 = .ok (.iload 4, 2) := by decide +kernel
theorem dX7_check_180 : decode cX7_check 180 = .ok (.aload_n 0, 1) := by decide +kernel
theorem dX7_check_181 : decode cX7_check 181 = .ok (.getfield 147, 3) := by decide +kernel
theorem dX7_check_184 : decode cX7_check 184 = .ok (.lastore, 1) := by decide +kernel
theorem dX7_check_185 : decode cX7_check 185 = .ok (.aload_n 0, 1) := by decide +kernel
theorem dX7_check_186 : decode cX7_check 186 = .ok (.getfield 91, 3) := by decide +kernel
theorem dX7_check_189 : decode cX7_check 189 = .ok (.iload 4, 2) := by decide +kernel
theorem dX7_check_191 : decode cX7_check 191 = .ok (.aload_n 0, 1) := by decide +kernel
theorem dX7_check_192 : decode cX7_check 192 = .ok (.getfield 151, 3) := by decide +kernel
theorem dX7_check_195 : decode cX7_check 195 = .ok (.lastore, 1) := by decide +kernel
theorem dX7_check_196 : decode cX7_check 196 = .ok (.iinc 3 1, 3) := by decide +kernel
theorem dX7_check_199 : decode cX7_check 199 = .ok (.goto (-134), 3) := by decide +kernel
theorem dX7_check_202 : decode cX7_check 202 = .ok (.iinc 2 1, 3) := by decide +kernel
theorem dX7_check_205 : decode cX7_check 205 = .ok (.goto (-150), 3) := by decide +kernel
theorem dX7_check_208 : decode cX7_check 208 = .ok (.iinc 1 1, 3) := by decide +kernel
theorem dX7_check_211 : decode cX7_check 211 = .ok (.goto (-166), 3) := by decide +kernel
theorem dX7_check_214 : decode cX7_check 214 = .ok (.aload_n 0, 1) := by decide +kernel
theorem dX7_check_215 : decode cX7_check 215 = .ok (.invokevirtual 154, 3) := by decide +kernel
theorem dX7_check_218 : decode cX7_check 218 = .ok (.ifCond .eq 5, 3) := by decide +kernel
theorem dX7_check_221 : decode cX7_check 221 = .ok (.iconst 2, 1) := by decide +kernel
theorem dX7_check_222 : decode cX7_check 222 = .ok (.ireturn, 1) := by decide +kernel
theorem dX7_check_223 : decode cX7_check 223 = .ok (.iconst 1, 1) := by decide +kernel
theorem dX7_check_224 : decode cX7_check 224 = .ok (.istore_n 1, 1) := by decide +kernel
theorem dX7_check_225 : decode cX7_check 225 = .ok (.iconst 0, 1) := by decide +kernel
theorem dX7_check_226 : decode cX7_check 226 = .ok (.istore_n 2, 1) := by decide +kernel
theorem dX7_check_227 : decode cX7_check 227 = .ok (.iload_n 2, 1) := by decide +kernel
theorem dX7_check_228 : decode cX7_check 228 = .ok (.aload_n 0, 1) := by decide +kernel
theorem dX7_check_229 : decode cX7_check 229 = .ok (.getfield 7, 3) := by decide +kernel
theorem dX7_check_232 : decode cX7_check 232 = .ok (.if_icmp .gt 76, 3) := by decide +kernel
theorem dX7_check_235 : decode cX7_check 235 = .ok (.iconst 0, 1) := by decide +kernel
theorem dX7_check_236 : decode cX7_check 236 = .ok (.istore_n 3, 1) := by decide +kernel
theorem dX7_check_237 : decode cX7_check 237 = .ok (.iload_n 3, 1) := by decide +kernel
theorem dX7_check_238 : decode cX7_check 238 = .ok (.aload_n 0, 1) := by decide +kernel
theorem dX7_check_239 : decode cX7_check 239 = .ok (.getfield 7, 3) := by decide +kernel
theorem dX7_check_242 : decode cX7_check 242 = .ok (.if_icmp .gt 60, 3) := by decide +kernel
theorem dX7_check_245 : decode cX7_check 245 = .ok (.iconst 5, 1) := by decide +kernel
theorem dX7_check_246 : decode cX7_check 246 = .ok (.iload_n 2, 1) := by decide +kernel
theorem dX7_check_247 : decode cX7_check 247 = .ok (.imul, 1) := by decide +kernel
theorem dX7_check_248 : decode cX7_check 248 = .ok (.iload_n 3, 1) := by decide +kernel
theorem dX7_check_249 : decode cX7_check 249 = .ok (.iadd, 1) := by decide +kernel
theorem dX7_check_250 : decode cX7_check 250 = .ok (.istore 4, 2) := by decide +kernel
theorem dX7_check_252 : decode cX7_check 252 = .ok (.iload_n 1, 1) := by decide +kernel
theorem dX7_check_253 : decode cX7_check 253 = .ok (.aload_n 0, 1) := by decide +kernel
theorem dX7_check_254 : decode cX7_check 254 = .ok (.getfield 88, 3) := by decide +kernel
theorem dX7_check_257 : decode cX7_check 257 = .ok (.iload 4, 2) := by decide +kernel
theorem dX7_check_259 : decode cX7_check 259 = .ok (.laload, 1) := by decide +kernel
theorem dX7_check_260 : decode cX7_check 260 = .ok (.aload_n 0, 1) := by decide +kernel
theorem dX7_check_261 : decode cX7_check 261 = .ok (.getfield 27, 3) := by decide +kernel
theorem dX7_check_264 : decode cX7_check 264 = .ok (.iload 4, 2) := by decide +kernel
theorem dX7_check_266 : decode cX7_check 266 = .ok (.laload, 1) := by decide +kernel
theorem dX7_check_267 : decode cX7_check 267 = .ok (.lcmp, 1) := by decide +kernel
theorem dX7_check_268 : decode cX7_check 268 = .ok (.ifCond .ne 25, 3) := by decide +kernel
theorem dX7_check_271 : decode cX7_check 271 = .ok (.aload_n 0, 1) := by decide +kernel
theorem dX7_check_272 : decode cX7_check 272 = .ok (.getfield 91, 3) := by decide +kernel
theorem dX7_check_275 : decode cX7_check 275 = .ok (.iload 4, 2) := by decide +kernel
theorem dX7_check_277 : decode cX7_check 277 = .ok (.laload, 1) := by decide +kernel
theorem dX7_check_278 : decode cX7_check 278 = .ok (.aload_n 0, 1) := by decide +kernel
theorem dX7_check_279 : decode cX7_check 279 = .ok (.getfield 30, 3) := by decide +kernel
theorem dX7_check_282 : decode cX7_check 282 = .ok (.iload 4, 2) := by decide +kernel
theorem dX7_check_284 : decode cX7_check 284 = .ok (.laload, 1) := by decide +kernel
theorem dX7_check_285 : decode cX7_check 285 = .ok (.lcmp, 1) := by decide +kernel
theorem dX7_check_286 : decode cX7_check 286 = .ok (.ifCond .ne 7, 3) := by decide +kernel
theorem dX7_check_289 : decode cX7_check 289 = .ok (.iconst 1, 1) := by decide +kernel
theorem dX7_check_290 : decode cX7_check 290 = .ok (.goto 4, 3) := by decide +kernel
theorem dX7_check_293 : decode cX7_check 293 = .ok (.iconst 0, 1) := by decide +kernel
theorem dX7_check_294 : decode cX7_check 294 = .ok (.iand, 1) := by decide +kernel
theorem dX7_check_295 : decode cX7_check 295 = .ok (.istore_n 1, 1) := by decide +kernel
theorem dX7_check_296 : decode cX7_check 296 = .ok (.iinc 3 1, 3) := by decide +kernel
theorem dX7_check_299 : decode cX7_check 299 = .ok (.goto (-62), 3) := by decide +kernel
theorem dX7_check_302 : decode cX7_check 302 = .ok (.iinc 2 1, 3) := by decide +kernel
theorem dX7_check_305 : decode cX7_check 305 = .ok (.goto (-78), 3) := by decide +kernel
theorem dX7_check_308 : decode cX7_check 308 = .ok (.iload_n 1, 1) := by decide +kernel
theorem dX7_check_309 : decode cX7_check 309 = .ok (.ifCond .eq 7, 3) := by decide +kernel
theorem dX7_check_312 : decode cX7_check 312 = .ok (.iconst 1, 1) := by decide +kernel
theorem dX7_check_313 : decode cX7_check 313 = .ok (.goto 4, 3) := by decide +kernel
theorem dX7_check_316 : decode cX7_check 316 = .ok (.iconst 0, 1) := by decide +kernel
theorem dX7_check_317 : decode cX7_check 317 = .ok (.ireturn, 1) := by decide +kernel
theorem dX7_equal_0 : decode cX7_equal 0 = .ok (.aload_n 0, 1) := by decide +kernel
theorem dX7_equal_1 : decode cX7_equal 1 = .ok (.getfield 94, 3) := by decide +kernel
theorem dX7_equal_4 : decode cX7_equal 4 = .ok (.iconst 1, 1) := by decide +kernel
theorem dX7_equal_5 : decode cX7_equal 5 = .ok (.if_icmp .eq 6, 3) := by decide +kernel
theorem dX7_equal_8 : decode cX7_equal 8 = .ok (.bipush (-2), 2) := by decide +kernel
theorem dX7_equal_10 : decode cX7_equal 10 = .ok (.ireturn, 1) := by decide +kernel
theorem dX7_equal_11 : decode cX7_equal 11 = .ok (.aload_n 0, 1) := by decide +kernel
theorem dX7_equal_12 : decode cX7_equal 12 = .ok (.iconst 0, 1) := by decide +kernel
theorem dX7_equal_13 : decode cX7_equal 13 = .ok (.putfield 112, 3) := by decide +kernel
theorem dX7_equal_16 : decode cX7_equal 16 = .ok (.iconst 1, 1) := by decide +kernel
theorem dX7_equal_17 : decode cX7_equal 17 = .ok (.istore_n 1, 1) := by decide +kernel
theorem dX7_equal_18 : decode cX7_equal 18 = .ok (.iconst 0, 1) := by decide +kernel
theorem dX7_equal_19 : decode cX7_equal 19 = .ok (.istore_n 2, 1) := by decide +kernel
theorem dX7_equal_20 : decode cX7_equal 20 = .ok (.iload_n 2, 1) := by decide +kernel
theorem dX7_equal_21 : decode cX7_equal 21 = .ok (.aload_n 0, 1) := by decide +kernel
theorem dX7_equal_22 : decode cX7_equal 22 = .ok (.getfield 109, 3) := by decide +kernel
theorem dX7_equal_25 : decode cX7_equal 25 = .ok (.if_icmp .ge 26, 3) := by decide +kernel
theorem dX7_equal_28 : decode cX7_equal 28 = .ok (.iload_n 1, 1) := by decide +kernel
theorem dX7_equal_29 : decode cX7_equal 29 = .ok (.aload_n 0, 1) := by decide +kernel
theorem dX7_equal_30 : decode cX7_equal 30 = .ok (.getfield 37, 3) := by decide +kernel
theorem dX7_equal_33 : decode cX7_equal 33 = .ok (.iload_n 2, 1) := by decide +kernel
theorem dX7_equal_34 : decode cX7_equal 34 = .ok (.iaload, 1) := by decide +kernel
theorem dX7_equal_35 : decode cX7_equal 35 = .ok (.ifCond .eq 7, 3) := by decide +kernel
theorem dX7_equal_38 : decode cX7_equal 38 = .ok (.iconst 1, 1) := by decide +kernel
theorem dX7_equal_39 : decode cX7_equal 39 = .ok (.goto 4, 3) := by decide +kernel
theorem dX7_equal_42 : decode cX7_equal 42 = .ok (.iconst 0, 1) := by decide +kernel
theorem dX7_equal_43 : decode cX7_equal 43 = .ok (.iand, 1) := by decide +kernel
theorem dX7_equal_44 : decode cX7_equal 44 = .ok (.istore_n 1, 1) := by decide +kernel
theorem dX7_equal_45 : decode cX7_equal 45 = .ok (.iinc 2 1, 3) := by decide +kernel
theorem dX7_equal_48 : decode cX7_equal 48 = .ok (.goto (-28), 3) := by decide +kernel
theorem dX7_equal_51 : decode cX7_equal 51 = .ok (.iload_n 1, 1) := by decide +kernel
theorem dX7_equal_52 : decode cX7_equal 52 = .ok (.ifCond .ne 5, 3) := by decide +kernel
theorem dX7_equal_55 : decode cX7_equal 55 = .ok (.iconst 0, 1) := by decide +kernel
theorem dX7_equal_56 : decode cX7_equal 56 = .ok (.ireturn, 1) := by decide +kernel
theorem dX7_equal_57 : decode cX7_equal 57 = .ok (.aload_n 0, 1) := by decide +kernel
theorem dX7_equal_58 : decode cX7_equal 58 = .ok (.invokevirtual 195, 3) := by decide +kernel
theorem dX7_equal_61 : decode cX7_equal 61 = .ok (.aload_n 0, 1) := by decide +kernel
theorem dX7_equal_62 : decode cX7_equal 62 = .ok (.invokevirtual 227, 3) := by decide +kernel
theorem dX7_equal_65 : decode cX7_equal 65 = .ok (.aload_n 0, 1) := by decide +kernel
theorem dX7_equal_66 : decode cX7_equal 66 = .ok (.getfield 70, 3) := by decide +kernel
theorem dX7_equal_69 : decode cX7_equal 69 = .ok (.iconst 0, 1) := by decide +kernel
theorem dX7_equal_70 : decode cX7_equal 70 = .ok (.lconst 1, 1) := by decide +kernel
theorem dX7_equal_71 : decode cX7_equal 71 = .ok (.lastore, 1) := by decide +kernel
theorem dX7_equal_72 : decode cX7_equal 72 = .ok (.aload_n 0, 1) := by decide +kernel
theorem dX7_equal_73 : decode cX7_equal 73 = .ok (.invokevirtual 230, 3) := by decide +kernel
theorem dX7_equal_76 : decode cX7_equal 76 = .ok (.aload_n 0, 1) := by decide +kernel
theorem dX7_equal_77 : decode cX7_equal 77 = .ok (.invokevirtual 154, 3) := by decide +kernel
theorem dX7_equal_80 : decode cX7_equal 80 = .ok (.ifCond .eq 5, 3) := by decide +kernel
theorem dX7_equal_83 : decode cX7_equal 83 = .ok (.iconst 2, 1) := by decide +kernel
theorem dX7_equal_84 : decode cX7_equal 84 = .ok (.ireturn, 1) := by decide +kernel
theorem dX7_equal_85 : decode cX7_equal 85 = .ok (.iconst 1, 1) := by decide +kernel
theorem dX7_equal_86 : decode cX7_equal 86 = .ok (.istore_n 2, 1) := by decide +kernel
theorem dX7_equal_87 : decode cX7_equal 87 = .ok (.iload_n 2, 1) := by decide +kernel
theorem dX7_equal_88 : decode cX7_equal 88 = .ok (.aload_n 0, 1) := by decide +kernel
theorem dX7_equal_89 : decode cX7_equal 89 = .ok (.getfield 7, 3) := by decide +kernel
theorem dX7_equal_92 : decode cX7_equal 92 = .ok (.if_icmp .gt 33, 3) := by decide +kernel
theorem dX7_equal_95 : decode cX7_equal 95 = .ok (.aload_n 0, 1) := by decide +kernel
theorem dX7_equal_96 : decode cX7_equal 96 = .ok (.getfield 76, 3) := by decide +kernel
theorem dX7_equal_99 : decode cX7_equal 99 = .ok (.iload_n 2, 1) := by decide +kernel
theorem dX7_equal_100 : decode cX7_equal 100 = .ok (.aload_n 0, 1) := by decide +kernel
theorem dX7_equal_101 : decode cX7_equal 101 = .ok (.getfield 70, 3) := by decide +kernel
theorem dX7_equal_104 : decode cX7_equal 104 = .ok (.iload_n 2, 1) := by decide +kernel
theorem dX7_equal_105 : decode cX7_equal 105 = .ok (.laload, 1) := by decide +kernel
theorem dX7_equal_106 : decode cX7_equal 106 = .ok (.lastore, 1) := by decide +kernel
theorem dX7_equal_107 : decode cX7_equal 107 = .ok (.aload_n 0, 1) := by decide +kernel
theorem dX7_equal_108 : decode cX7_equal 108 = .ok (.getfield 79, 3) := by decide +kernel
theorem dX7_equal_111 : decode cX7_equal 111 = .ok (.iload_n 2, 1) := by decide +kernel
theorem dX7_equal_112 : decode cX7_equal 112 = .ok (.aload_n 0, 1) := by decide +kernel
theorem dX7_equal_113 : decode cX7_equal 113 = .ok (.getfield 73, 3) := by decide +kernel
theorem dX7_equal_116 : decode cX7_equal 116 = .ok (.iload_n 2, 1) := by decide +kernel
theorem dX7_equal_117 : decode cX7_equal 117 = .ok (.laload, 1) := by decide +kernel
theorem dX7_equal_118 : decode cX7_equal 118 = .ok (.lastore, 1) := by decide +kernel
theorem dX7_equal_119 : decode cX7_equal 119 = .ok (.iinc 2 1, 3) := by decide +kernel
theorem dX7_equal_122 : decode cX7_equal 122 = .ok (.goto (-35), 3) := by decide +kernel
theorem dX7_equal_125 : decode cX7_equal 125 = .ok (.aload_n 0, 1) := by decide +kernel
theorem dX7_equal_126 : decode cX7_equal 126 = .ok (.iconst 1, 1) := by decide +kernel
theorem dX7_equal_127 : decode cX7_equal 127 = .ok (.putfield 112, 3) := by decide +kernel
theorem dX7_equal_130 : decode cX7_equal 130 = .ok (.iconst 1, 1) := by decide +kernel
theorem dX7_equal_131 : decode cX7_equal 131 = .ok (.ireturn, 1) := by decide +kernel
theorem dX7_pivot_0 : decode cX7_pivot 0 = .ok (.lload_n 3, 1) := by decide +kernel
theorem dX7_pivot_1 : decode cX7_pivot 1 = .ok (.lconst 0, 1) := by decide +kernel
theorem dX7_pivot_2 : decode cX7_pivot 2 = .ok (.lcmp, 1) := by decide +kernel
theorem dX7_pivot_3 : decode cX7_pivot 3 = .ok (.ifCond .ne 9, 3) := by decide +kernel
theorem dX7_pivot_6 : decode cX7_pivot 6 = .ok (.ldc2_w 290, 3) := by decide +kernel
theorem dX7_pivot_9 : decode cX7_pivot 9 = .ok (.goto 6, 3) := by decide +kernel
theorem dX7_pivot_12 : decode cX7_pivot 12 = .ok (.lload_n 1, 1) := by decide +kernel
theorem dX7_pivot_13 : decode cX7_pivot 13 = .ok (.lload_n 3, 1) := by decide +kernel
theorem dX7_pivot_14 : decode cX7_pivot 14 = .ok (.ldiv, 1) := by decide +kernel
theorem dX7_pivot_15 : decode cX7_pivot 15 = .ok (.lreturn, 1) := by decide +kernel
theorem dX7_count_0 : decode cX7_count 0 = .ok (.iload_n 1, 1) := by decide +kernel
theorem dX7_count_1 : decode cX7_count 1 = .ok (.ifCond .ne 10, 3) := by decide +kernel
theorem dX7_count_4 : decode cX7_count 4 = .ok (.aload_n 0, 1) := by decide +kernel
theorem dX7_count_5 : decode cX7_count 5 = .ok (.getfield 7, 3) := by decide +kernel
theorem dX7_count_8 : decode cX7_count 8 = .ok (.goto 28, 3) := by decide +kernel
theorem dX7_count_11 : decode cX7_count 11 = .ok (.iload_n 1, 1) := by decide +kernel
theorem dX7_count_12 : decode cX7_count 12 = .ok (.iconst 1, 1) := by decide +kernel
theorem dX7_count_13 : decode cX7_count 13 = .ok (.if_icmp .ne 10, 3) := by decide +kernel
theorem dX7_count_16 : decode cX7_count 16 = .ok (.aload_n 0, 1) := by decide +kernel
theorem dX7_count_17 : decode cX7_count 17 = .ok (.getfield 97, 3) := by decide +kernel
theorem dX7_count_20 : decode cX7_count 20 = .ok (.goto 16, 3) := by decide +kernel
theorem dX7_count_23 : decode cX7_count 23 = .ok (.iload_n 1, 1) := by decide +kernel
theorem dX7_count_24 : decode cX7_count 24 = .ok (.iconst 2, 1) := by decide +kernel
theorem dX7_count_25 : decode cX7_count 25 = .ok (.if_icmp .ne 10, 3) := by decide +kernel
theorem dX7_count_28 : decode cX7_count 28 = .ok (.aload_n 0, 1) := by decide +kernel
theorem dX7_count_29 : decode cX7_count 29 = .ok (.getfield 106, 3) := by decide +kernel
theorem dX7_count_32 : decode cX7_count 32 = .ok (.goto 4, 3) := by decide +kernel
theorem dX7_count_35 : decode cX7_count 35 = .ok (.iconst (-1), 1) := by decide +kernel
theorem dX7_count_36 : decode cX7_count 36 = .ok (.ireturn, 1) := by decide +kernel
theorem dJxe99ae_isNaN_b9ae7_0 : decode cJxe99ae_isNaN_b9ae7 0 = .ok (.dload_n 0, 1) := by decide +kernel
theorem dJxe99ae_isNaN_b9ae7_1 : decode cJxe99ae_isNaN_b9ae7 1 = .ok (.dload_n 0, 1) := by decide +kernel
theorem dJxe99ae_isNaN_b9ae7_2 : decode cJxe99ae_isNaN_b9ae7 2 = .ok (.dcmp .l, 1) := by decide +kernel
theorem dJxe99ae_isNaN_b9ae7_3 : decode cJxe99ae_isNaN_b9ae7 3 = .ok (.ifCond .eq 7, 3) := by decide +kernel
theorem dJxe99ae_isNaN_b9ae7_6 : decode cJxe99ae_isNaN_b9ae7 6 = .ok (.iconst 1, 1) := by decide +kernel
theorem dJxe99ae_isNaN_b9ae7_7 : decode cJxe99ae_isNaN_b9ae7 7 = .ok (.goto 4, 3) := by decide +kernel
theorem dJxe99ae_isNaN_b9ae7_10 : decode cJxe99ae_isNaN_b9ae7 10 = .ok (.iconst 0, 1) := by decide +kernel
theorem dJxe99ae_isNaN_b9ae7_11 : decode cJxe99ae_isNaN_b9ae7 11 = .ok (.ireturn, 1) := by decide +kernel
theorem dJxe99ae_doubleToLongBits_ccdee_0 : decode cJxe99ae_doubleToLongBits_ccdee 0 = .ok (.dload_n 0, 1) := by decide +kernel
theorem dJxe99ae_doubleToLongBits_ccdee_1 : decode cJxe99ae_doubleToLongBits_ccdee 1 = .ok (.invokestatic 122, 3) := by decide +kernel
theorem dJxe99ae_doubleToLongBits_ccdee_4 : decode cJxe99ae_doubleToLongBits_ccdee 4 = .ok (.ifCond .ne 8, 3) := by decide +kernel
theorem dJxe99ae_doubleToLongBits_ccdee_7 : decode cJxe99ae_doubleToLongBits_ccdee 7 = .ok (.dload_n 0, 1) := by decide +kernel
theorem dJxe99ae_doubleToLongBits_ccdee_8 : decode cJxe99ae_doubleToLongBits_ccdee 8 = .ok (.invokestatic 134, 3) := by decide +kernel
theorem dJxe99ae_doubleToLongBits_ccdee_11 : decode cJxe99ae_doubleToLongBits_ccdee 11 = .ok (.lreturn, 1) := by decide +kernel
theorem dJxe99ae_doubleToLongBits_ccdee_12 : decode cJxe99ae_doubleToLongBits_ccdee 12 = .ok (.ldc2_w 137, 3) := by decide +kernel
theorem dJxe99ae_doubleToLongBits_ccdee_15 : decode cJxe99ae_doubleToLongBits_ccdee 15 = .ok (.lreturn, 1) := by decide +kernel
theorem dJ13_compare_74951_0 : decode cJ13_compare_74951 0 = .ok (.lload_n 0, 1) := by decide +kernel
theorem dJ13_compare_74951_1 : decode cJ13_compare_74951 1 = .ok (.lload_n 2, 1) := by decide +kernel
theorem dJ13_compare_74951_2 : decode cJ13_compare_74951 2 = .ok (.lcmp, 1) := by decide +kernel
theorem dJ13_compare_74951_3 : decode cJ13_compare_74951 3 = .ok (.ifCond .ge 7, 3) := by decide +kernel
theorem dJ13_compare_74951_6 : decode cJ13_compare_74951 6 = .ok (.iconst (-1), 1) := by decide +kernel
theorem dJ13_compare_74951_7 : decode cJ13_compare_74951 7 = .ok (.goto 14, 3) := by decide +kernel
theorem dJ13_compare_74951_10 : decode cJ13_compare_74951 10 = .ok (.lload_n 0, 1) := by decide +kernel
theorem dJ13_compare_74951_11 : decode cJ13_compare_74951 11 = .ok (.lload_n 2, 1) := by decide +kernel
theorem dJ13_compare_74951_12 : decode cJ13_compare_74951 12 = .ok (.lcmp, 1) := by decide +kernel
theorem dJ13_compare_74951_13 : decode cJ13_compare_74951 13 = .ok (.ifCond .ne 7, 3) := by decide +kernel
theorem dJ13_compare_74951_16 : decode cJ13_compare_74951 16 = .ok (.iconst 0, 1) := by decide +kernel
theorem dJ13_compare_74951_17 : decode cJ13_compare_74951 17 = .ok (.goto 4, 3) := by decide +kernel
theorem dJ13_compare_74951_20 : decode cJ13_compare_74951 20 = .ok (.iconst 1, 1) := by decide +kernel
theorem dJ13_compare_74951_21 : decode cJ13_compare_74951 21 = .ok (.ireturn, 1) := by decide +kernel
theorem dJ9_max_7cf53_0 : decode cJ9_max_7cf53 0 = .ok (.iload_n 0, 1) := by decide +kernel
theorem dJ9_max_7cf53_1 : decode cJ9_max_7cf53 1 = .ok (.iload_n 1, 1) := by decide +kernel
theorem dJ9_max_7cf53_2 : decode cJ9_max_7cf53 2 = .ok (.if_icmp .lt 7, 3) := by decide +kernel
theorem dJ9_max_7cf53_5 : decode cJ9_max_7cf53 5 = .ok (.iload_n 0, 1) := by decide +kernel
theorem dJ9_max_7cf53_6 : decode cJ9_max_7cf53 6 = .ok (.goto 4, 3) := by decide +kernel
theorem dJ9_max_7cf53_9 : decode cJ9_max_7cf53 9 = .ok (.iload_n 1, 1) := by decide +kernel
theorem dJ9_max_7cf53_10 : decode cJ9_max_7cf53 10 = .ok (.ireturn, 1) := by decide +kernel
theorem dJ9_min_7cf53_0 : decode cJ9_min_7cf53 0 = .ok (.iload_n 0, 1) := by decide +kernel
theorem dJ9_min_7cf53_1 : decode cJ9_min_7cf53 1 = .ok (.iload_n 1, 1) := by decide +kernel
theorem dJ9_min_7cf53_2 : decode cJ9_min_7cf53 2 = .ok (.if_icmp .gt 7, 3) := by decide +kernel
theorem dJ9_min_7cf53_5 : decode cJ9_min_7cf53 5 = .ok (.iload_n 0, 1) := by decide +kernel
theorem dJ9_min_7cf53_6 : decode cJ9_min_7cf53 6 = .ok (.goto 4, 3) := by decide +kernel
theorem dJ9_min_7cf53_9 : decode cJ9_min_7cf53 9 = .ok (.iload_n 1, 1) := by decide +kernel
theorem dJ9_min_7cf53_10 : decode cJ9_min_7cf53 10 = .ok (.ireturn, 1) := by decide +kernel
theorem dJ7_fill_53178_0 : decode cJ7_fill_53178 0 = .ok (.iconst 0, 1) := by decide +kernel
theorem dJ7_fill_53178_1 : decode cJ7_fill_53178 1 = .ok (.istore_n 2, 1) := by decide +kernel
theorem dJ7_fill_53178_2 : decode cJ7_fill_53178 2 = .ok (.aload_n 0, 1) := by decide +kernel
theorem dJ7_fill_53178_3 : decode cJ7_fill_53178 3 = .ok (.arraylength, 1) := by decide +kernel
theorem dJ7_fill_53178_4 : decode cJ7_fill_53178 4 = .ok (.istore_n 3, 1) := by decide +kernel
theorem dJ7_fill_53178_5 : decode cJ7_fill_53178 5 = .ok (.iload_n 2, 1) := by decide +kernel
theorem dJ7_fill_53178_6 : decode cJ7_fill_53178 6 = .ok (.iload_n 3, 1) := by decide +kernel
theorem dJ7_fill_53178_7 : decode cJ7_fill_53178 7 = .ok (.if_icmp .ge 13, 3) := by decide +kernel
theorem dJ7_fill_53178_10 : decode cJ7_fill_53178 10 = .ok (.aload_n 0, 1) := by decide +kernel
theorem dJ7_fill_53178_11 : decode cJ7_fill_53178 11 = .ok (.iload_n 2, 1) := by decide +kernel
theorem dJ7_fill_53178_12 : decode cJ7_fill_53178 12 = .ok (.iload_n 1, 1) := by decide +kernel
theorem dJ7_fill_53178_13 : decode cJ7_fill_53178 13 = .ok (.iastore, 1) := by decide +kernel
theorem dJ7_fill_53178_14 : decode cJ7_fill_53178 14 = .ok (.iinc 2 1, 3) := by decide +kernel
theorem dJ7_fill_53178_17 : decode cJ7_fill_53178 17 = .ok (.goto (-12), 3) := by decide +kernel
theorem dJ7_fill_53178_20 : decode cJ7_fill_53178 20 = .ok (.return_, 1) := by decide +kernel
theorem dL_law_0 : decode cL_law 0 = .ok (.new 7, 3) := by decide +kernel
theorem dL_law_3 : decode cL_law 3 = .ok (.dup, 1) := by decide +kernel
theorem dL_law_4 : decode cL_law 4 = .ok (.invokespecial 9, 3) := by decide +kernel
theorem dL_law_7 : decode cL_law 7 = .ok (.astore_n 1, 1) := by decide +kernel
theorem dL_law_8 : decode cL_law 8 = .ok (.new 10, 3) := by decide +kernel
theorem dL_law_11 : decode cL_law 11 = .ok (.dup, 1) := by decide +kernel
theorem dL_law_12 : decode cL_law 12 = .ok (.invokespecial 12, 3) := by decide +kernel
theorem dL_law_15 : decode cL_law 15 = .ok (.astore_n 2, 1) := by decide +kernel
theorem dL_law_16 : decode cL_law 16 = .ok (.iconst 0, 1) := by decide +kernel
theorem dL_law_17 : decode cL_law 17 = .ok (.istore_n 3, 1) := by decide +kernel
theorem dL_law_18 : decode cL_law 18 = .ok (.iload_n 3, 1) := by decide +kernel
theorem dL_law_19 : decode cL_law 19 = .ok (.aload_n 0, 1) := by decide +kernel
theorem dL_law_20 : decode cL_law 20 = .ok (.arraylength, 1) := by decide +kernel
theorem dL_law_21 : decode cL_law 21 = .ok (.bipush 6, 2) := by decide +kernel
theorem dL_law_23 : decode cL_law 23 = .ok (.isub, 1) := by decide +kernel
theorem dL_law_24 : decode cL_law 24 = .ok (.if_icmp .gt 745, 3) := by decide +kernel
theorem dL_law_27 : decode cL_law 27 = .ok (.aload_n 0, 1) := by decide +kernel
theorem dL_law_28 : decode cL_law 28 = .ok (.iload_n 3, 1) := by decide +kernel
theorem dL_law_29 : decode cL_law 29 = .ok (.iaload, 1) := by decide +kernel
theorem dL_law_30 : decode cL_law 30 = .ok (.bipush 31, 2) := by decide +kernel
theorem dL_law_32 : decode cL_law 32 = .ok (.iand, 1) := by decide +kernel
theorem dL_law_33 : decode cL_law 33 = .ok (.tableswitch 730 0 16 #[83, 106, 119, 172, 236, 259, 282, 325, 348, 382, 426, 460, 484, 587, 600, 613, 707], 83) := by decide +kernel
theorem dL_law_116 : decode cL_law 116 = .ok (.aload_n 1, 1) := by decide +kernel
theorem dL_law_117 : decode cL_law 117 = .ok (.aload_n 0, 1) := by decide +kernel
theorem dL_law_118 : decode cL_law 118 = .ok (.iload_n 3, 1) := by decide +kernel
theorem dL_law_119 : decode cL_law 119 = .ok (.iconst 1, 1) := by decide +kernel
theorem dL_law_120 : decode cL_law 120 = .ok (.iadd, 1) := by decide +kernel
theorem dL_law_121 : decode cL_law 121 = .ok (.iaload, 1) := by decide +kernel
theorem dL_law_122 : decode cL_law 122 = .ok (.invokevirtual 13, 3) := by decide +kernel
theorem dL_law_125 : decode cL_law 125 = .ok (.aload_n 2, 1) := by decide +kernel
theorem dL_law_126 : decode cL_law 126 = .ok (.aload_n 0, 1) := by decide +kernel
theorem dL_law_127 : decode cL_law 127 = .ok (.iload_n 3, 1) := by decide +kernel
theorem dL_law_128 : decode cL_law 128 = .ok (.iconst 1, 1) := by decide +kernel
theorem dL_law_129 : decode cL_law 129 = .ok (.iadd, 1) := by decide +kernel
theorem dL_law_130 : decode cL_law 130 = .ok (.iaload, 1) := by decide +kernel
theorem dL_law_131 : decode cL_law 131 = .ok (.invokevirtual 17, 3) := by decide +kernel
theorem dL_law_134 : decode cL_law 134 = .ok (.if_icmp .eq 629, 3) := by decide +kernel
theorem dL_law_137 : decode cL_law 137 = .ok (.iconst 0, 1) := by decide +kernel
theorem dL_law_138 : decode cL_law 138 = .ok (.ireturn, 1) := by decide +kernel
theorem dL_law_139 : decode cL_law 139 = .ok (.aload_n 1, 1) := by decide +kernel
theorem dL_law_140 : decode cL_law 140 = .ok (.invokevirtual 18, 3) := by decide +kernel
theorem dL_law_143 : decode cL_law 143 = .ok (.aload_n 2, 1) := by decide +kernel
theorem dL_law_144 : decode cL_law 144 = .ok (.invokevirtual 22, 3) := by decide +kernel
theorem dL_law_147 : decode cL_law 147 = .ok (.if_icmp .eq 616, 3) := by decide +kernel
theorem dL_law_150 : decode cL_law 150 = .ok (.iconst 0, 1) := by decide +kernel
theorem dL_law_151 : decode cL_law 151 = .ok (.ireturn, 1) := by decide +kernel
theorem dL_law_152 : decode cL_law 152 = .ok (.aload_n 1, 1) := by decide +kernel
theorem dL_law_153 : decode cL_law 153 = .ok (.aload_n 0, 1) := by decide +kernel
theorem dL_law_154 : decode cL_law 154 = .ok (.iload_n 3, 1) := by decide +kernel
theorem dL_law_155 : decode cL_law 155 = .ok (.iconst 1, 1) := by decide +kernel
theorem dL_law_156 : decode cL_law 156 = .ok (.iadd, 1) := by decide +kernel
theorem dL_law_157 : decode cL_law 157 = .ok (.iaload, 1) := by decide +kernel
theorem dL_law_158 : decode cL_law 158 = .ok (.aload_n 0, 1) := by decide +kernel
theorem dL_law_159 : decode cL_law 159 = .ok (.iload_n 3, 1) := by decide +kernel
theorem dL_law_160 : decode cL_law 160 = .ok (.iconst 2, 1) := by decide +kernel
theorem dL_law_161 : decode cL_law 161 = .ok (.iadd, 1) := by decide +kernel
theorem dL_law_162 : decode cL_law 162 = .ok (.iaload, 1) := by decide +kernel
theorem dL_law_163 : decode cL_law 163 = .ok (.aload_n 0, 1) := by decide +kernel
theorem dL_law_164 : decode cL_law 164 = .ok (.iload_n 3, 1) := by decide +kernel
theorem dL_law_165 : decode cL_law 165 = .ok (.iconst 3, 1) := by decide +kernel
theorem dL_law_166 : decode cL_law 166 = .ok (.iadd, 1) := by decide +kernel
theorem dL_law_167 : decode cL_law 167 = .ok (.iaload, 1) := by decide +kernel
theorem dL_law_168 : decode cL_law 168 = .ok (.aload_n 0, 1) := by decide +kernel
theorem dL_law_169 : decode cL_law 169 = .ok (.iload_n 3, 1) := by decide +kernel
theorem dL_law_170 : decode cL_law 170 = .ok (.iconst 4, 1) := by decide +kernel
theorem dL_law_171 : decode cL_law 171 = .ok (.iadd, 1) := by decide +kernel
theorem dL_law_172 : decode cL_law 172 = .ok (.iaload, 1) := by decide +kernel
theorem dL_law_173 : decode cL_law 173 = .ok (.invokevirtual 23, 3) := by decide +kernel
theorem dL_law_176 : decode cL_law 176 = .ok (.aload_n 2, 1) := by decide +kernel
theorem dL_law_177 : decode cL_law 177 = .ok (.aload_n 0, 1) := by decide +kernel
theorem dL_law_178 : decode cL_law 178 = .ok (.iload_n 3, 1) := by decide +kernel
theorem dL_law_179 : decode cL_law 179 = .ok (.iconst 1, 1) := by decide +kernel
theorem dL_law_180 : decode cL_law 180 = .ok (.iadd, 1) := by decide +kernel
theorem dL_law_181 : decode cL_law 181 = .ok (.iaload, 1) := by decide +kernel
theorem dL_law_182 : decode cL_law 182 = .ok (.aload_n 0, 1) := by decide +kernel
theorem dL_law_183 : decode cL_law 183 = .ok (.iload_n 3, 1) := by decide +kernel
theorem dL_law_184 : decode cL_law 184 = .ok (.iconst 2, 1) := by decide +kernel
theorem dL_law_185 : decode cL_law 185 = .ok (.iadd, 1) := by decide +kernel
theorem dL_law_186 : decode cL_law 186 = .ok (.iaload, 1) := by decide +kernel
theorem dL_law_187 : decode cL_law 187 = .ok (.aload_n 0, 1) := by decide +kernel
theorem dL_law_188 : decode cL_law 188 = .ok (.iload_n 3, 1) := by decide +kernel
theorem dL_law_189 : decode cL_law 189 = .ok (.iconst 3, 1) := by decide +kernel
theorem dL_law_190 : decode cL_law 190 = .ok (.iadd, 1) := by decide +kernel
theorem dL_law_191 : decode cL_law 191 = .ok (.iaload, 1) := by decide +kernel
theorem dL_law_192 : decode cL_law 192 = .ok (.aload_n 0, 1) := by decide +kernel
theorem dL_law_193 : decode cL_law 193 = .ok (.iload_n 3, 1) := by decide +kernel
theorem dL_law_194 : decode cL_law 194 = .ok (.iconst 4, 1) := by decide +kernel
theorem dL_law_195 : decode cL_law 195 = .ok (.iadd, 1) := by decide +kernel
theorem dL_law_196 : decode cL_law 196 = .ok (.iaload, 1) := by decide +kernel
theorem dL_law_197 : decode cL_law 197 = .ok (.invokevirtual 27, 3) := by decide +kernel
theorem dL_law_200 : decode cL_law 200 = .ok (.if_icmp .eq 563, 3) := by decide +kernel
theorem dL_law_203 : decode cL_law 203 = .ok (.iconst 0, 1) := by decide +kernel
theorem dL_law_204 : decode cL_law 204 = .ok (.ireturn, 1) := by decide +kernel
theorem dL_law_205 : decode cL_law 205 = .ok (.aload_n 1, 1) := by decide +kernel
theorem dL_law_206 : decode cL_law 206 = .ok (.aload_n 0, 1) := by decide +kernel
theorem dL_law_207 : decode cL_law 207 = .ok (.iload_n 3, 1) := by decide +kernel
theorem dL_law_208 : decode cL_law 208 = .ok (.iconst 1, 1) := by decide +kernel
theorem dL_law_209 : decode cL_law 209 = .ok (.iadd, 1) := by decide +kernel
theorem dL_law_210 : decode cL_law 210 = .ok (.iaload, 1) := by decide +kernel
theorem dL_law_211 : decode cL_law 211 = .ok (.aload_n 0, 1) := by decide +kernel
theorem dL_law_212 : decode cL_law 212 = .ok (.iload_n 3, 1) := by decide +kernel
theorem dL_law_213 : decode cL_law 213 = .ok (.iconst 2, 1) := by decide +kernel
theorem dL_law_214 : decode cL_law 214 = .ok (.iadd, 1) := by decide +kernel
theorem dL_law_215 : decode cL_law 215 = .ok (.iaload, 1) := by decide +kernel
theorem dL_law_216 : decode cL_law 216 = .ok (.aload_n 0, 1) := by decide +kernel
theorem dL_law_217 : decode cL_law 217 = .ok (.iload_n 3, 1) := by decide +kernel
theorem dL_law_218 : decode cL_law 218 = .ok (.iconst 3, 1) := by decide +kernel
theorem dL_law_219 : decode cL_law 219 = .ok (.iadd, 1) := by decide +kernel
theorem dL_law_220 : decode cL_law 220 = .ok (.iaload, 1) := by decide +kernel
theorem dL_law_221 : decode cL_law 221 = .ok (.aload_n 0, 1) := by decide +kernel
theorem dL_law_222 : decode cL_law 222 = .ok (.iload_n 3, 1) := by decide +kernel
theorem dL_law_223 : decode cL_law 223 = .ok (.iconst 4, 1) := by decide +kernel
theorem dL_law_224 : decode cL_law 224 = .ok (.iadd, 1) := by decide +kernel
theorem dL_law_225 : decode cL_law 225 = .ok (.iaload, 1) := by decide +kernel
theorem dL_law_226 : decode cL_law 226 = .ok (.aload_n 0, 1) := by decide +kernel
theorem dL_law_227 : decode cL_law 227 = .ok (.iload_n 3, 1) := by decide +kernel
theorem dL_law_228 : decode cL_law 228 = .ok (.iconst 5, 1) := by decide +kernel
theorem dL_law_229 : decode cL_law 229 = .ok (.iadd, 1) := by decide +kernel
theorem dL_law_230 : decode cL_law 230 = .ok (.iaload, 1) := by decide +kernel
theorem dL_law_231 : decode cL_law 231 = .ok (.invokevirtual 28, 3) := by decide +kernel
theorem dL_law_234 : decode cL_law 234 = .ok (.aload_n 2, 1) := by decide +kernel
theorem dL_law_235 : decode cL_law 235 = .ok (.aload_n 0, 1) := by decide +kernel
theorem dL_law_236 : decode cL_law 236 = .ok (.iload_n 3, 1) := by decide +kernel
theorem dL_law_237 : decode cL_law 237 = .ok (.iconst 1, 1) := by decide +kernel
theorem dL_law_238 : decode cL_law 238 = .ok (.iadd, 1) := by decide +kernel
theorem dL_law_239 : decode cL_law 239 = .ok (.iaload, 1) := by decide +kernel
theorem dL_law_240 : decode cL_law 240 = .ok (.aload_n 0, 1) := by decide +kernel
theorem dL_law_241 : decode cL_law 241 = .ok (.iload_n 3, 1) := by decide +kernel
theorem dL_law_242 : decode cL_law 242 = .ok (.iconst 2, 1) := by decide +kernel
theorem dL_law_243 : decode cL_law 243 = .ok (.iadd, 1) := by decide +kernel
theorem dL_law_244 : decode cL_law 244 = .ok (.iaload, 1) := by decide +kernel
theorem dL_law_245 : decode cL_law 245 = .ok (.aload_n 0, 1) := by decide +kernel
theorem dL_law_246 : decode cL_law 246 = .ok (.iload_n 3, 1) := by decide +kernel
theorem dL_law_247 : decode cL_law 247 = .ok (.iconst 3, 1) := by decide +kernel
theorem dL_law_248 : decode cL_law 248 = .ok (.iadd, 1) := by decide +kernel
theorem dL_law_249 : decode cL_law 249 = .ok (.iaload, 1) := by decide +kernel
theorem dL_law_250 : decode cL_law 250 = .ok (.aload_n 0, 1) := by decide +kernel
theorem dL_law_251 : decode cL_law 251 = .ok (.iload_n 3, 1) := by decide +kernel
theorem dL_law_252 : decode cL_law 252 = .ok (.iconst 4, 1) := by decide +kernel
theorem dL_law_253 : decode cL_law 253 = .ok (.iadd, 1) := by decide +kernel
theorem dL_law_254 : decode cL_law 254 = .ok (.iaload, 1) := by decide +kernel
theorem dL_law_255 : decode cL_law 255 = .ok (.aload_n 0, 1) := by decide +kernel
theorem dL_law_256 : decode cL_law 256 = .ok (.iload_n 3, 1) := by decide +kernel
theorem dL_law_257 : decode cL_law 257 = .ok (.iconst 5, 1) := by decide +kernel
theorem dL_law_258 : decode cL_law 258 = .ok (.iadd, 1) := by decide +kernel
theorem dL_law_259 : decode cL_law 259 = .ok (.iaload, 1) := by decide +kernel
theorem dL_law_260 : decode cL_law 260 = .ok (.invokevirtual 32, 3) := by decide +kernel
theorem dL_law_263 : decode cL_law 263 = .ok (.lcmp, 1) := by decide +kernel
theorem dL_law_264 : decode cL_law 264 = .ok (.ifCond .eq 499, 3) := by decide +kernel
theorem dL_law_267 : decode cL_law 267 = .ok (.iconst 0, 1) := by decide +kernel
theorem dL_law_268 : decode cL_law 268 = .ok (.ireturn, 1) := by decide +kernel
theorem dL_law_269 : decode cL_law 269 = .ok (.aload_n 1, 1) := by decide +kernel
theorem dL_law_270 : decode cL_law 270 = .ok (.aload_n 0, 1) := by decide +kernel
theorem dL_law_271 : decode cL_law 271 = .ok (.iload_n 3, 1) := by decide +kernel
theorem dL_law_272 : decode cL_law 272 = .ok (.iconst 1, 1) := by decide +kernel
theorem dL_law_273 : decode cL_law 273 = .ok (.iadd, 1) := by decide +kernel
theorem dL_law_274 : decode cL_law 274 = .ok (.iaload, 1) := by decide +kernel
theorem dL_law_275 : decode cL_law 275 = .ok (.invokevirtual 33, 3) := by decide +kernel
theorem dL_law_278 : decode cL_law 278 = .ok (.aload_n 2, 1) := by decide +kernel
theorem dL_law_279 : decode cL_law 279 = .ok (.aload_n 0, 1) := by decide +kernel
theorem dL_law_280 : decode cL_law 280 = .ok (.iload_n 3, 1) := by decide +kernel
theorem dL_law_281 : decode cL_law 281 = .ok (.iconst 1, 1) := by decide +kernel
theorem dL_law_282 : decode cL_law 282 = .ok (.iadd, 1) := by decide +kernel
theorem dL_law_283 : decode cL_law 283 = .ok (.iaload, 1) := by decide +kernel
theorem dL_law_284 : decode cL_law 284 = .ok (.invokevirtual 36, 3) := by decide +kernel
theorem dL_law_287 : decode cL_law 287 = .ok (.if_icmp .eq 476, 3) := by decide +kernel
theorem dL_law_290 : decode cL_law 290 = .ok (.iconst 0, 1) := by decide +kernel
theorem dL_law_291 : decode cL_law 291 = .ok (.ireturn, 1) := by decide +kernel
theorem dL_law_292 : decode cL_law 292 = .ok (.aload_n 1, 1) := by decide +kernel
theorem dL_law_293 : decode cL_law 293 = .ok (.aload_n 0, 1) := by decide +kernel
theorem dL_law_294 : decode cL_law 294 = .ok (.iload_n 3, 1) := by decide +kernel
theorem dL_law_295 : decode cL_law 295 = .ok (.iconst 1, 1) := by decide +kernel
theorem dL_law_296 : decode cL_law 296 = .ok (.iadd, 1) := by decide +kernel
theorem dL_law_297 : decode cL_law 297 = .ok (.iaload, 1) := by decide +kernel
theorem dL_law_298 : decode cL_law 298 = .ok (.invokevirtual 37, 3) := by decide +kernel
theorem dL_law_301 : decode cL_law 301 = .ok (.aload_n 2, 1) := by decide +kernel
theorem dL_law_302 : decode cL_law 302 = .ok (.aload_n 0, 1) := by decide +kernel
theorem dL_law_303 : decode cL_law 303 = .ok (.iload_n 3, 1) := by decide +kernel
theorem dL_law_304 : decode cL_law 304 = .ok (.iconst 1, 1) := by decide +kernel
theorem dL_law_305 : decode cL_law 305 = .ok (.iadd, 1) := by decide +kernel
theorem dL_law_306 : decode cL_law 306 = .ok (.iaload, 1) := by decide +kernel
theorem dL_law_307 : decode cL_law 307 = .ok (.invokevirtual 40, 3) := by decide +kernel
theorem dL_law_310 : decode cL_law 310 = .ok (.if_icmp .eq 453, 3) := by decide +kernel
theorem dL_law_313 : decode cL_law 313 = .ok (.iconst 0, 1) := by decide +kernel
theorem dL_law_314 : decode cL_law 314 = .ok (.ireturn, 1) := by decide +kernel
theorem dL_law_315 : decode cL_law 315 = .ok (.aload_n 1, 1) := by decide +kernel
theorem dL_law_316 : decode cL_law 316 = .ok (.aload_n 0, 1) := by decide +kernel
theorem dL_law_317 : decode cL_law 317 = .ok (.iload_n 3, 1) := by decide +kernel
theorem dL_law_318 : decode cL_law 318 = .ok (.iconst 1, 1) := by decide +kernel
theorem dL_law_319 : decode cL_law 319 = .ok (.iadd, 1) := by decide +kernel
theorem dL_law_320 : decode cL_law 320 = .ok (.iaload, 1) := by decide +kernel
theorem dL_law_321 : decode cL_law 321 = .ok (.aload_n 0, 1) := by decide +kernel
theorem dL_law_322 : decode cL_law 322 = .ok (.iload_n 3, 1) := by decide +kernel
theorem dL_law_323 : decode cL_law 323 = .ok (.iconst 2, 1) := by decide +kernel
theorem dL_law_324 : decode cL_law 324 = .ok (.iadd, 1) := by decide +kernel
theorem dL_law_325 : decode cL_law 325 = .ok (.iaload, 1) := by decide +kernel
theorem dL_law_326 : decode cL_law 326 = .ok (.aload_n 0, 1) := by decide +kernel
theorem dL_law_327 : decode cL_law 327 = .ok (.iload_n 3, 1) := by decide +kernel
theorem dL_law_328 : decode cL_law 328 = .ok (.iconst 3, 1) := by decide +kernel
theorem dL_law_329 : decode cL_law 329 = .ok (.iadd, 1) := by decide +kernel
theorem dL_law_330 : decode cL_law 330 = .ok (.iaload, 1) := by decide +kernel
theorem dL_law_331 : decode cL_law 331 = .ok (.invokevirtual 41, 3) := by decide +kernel
theorem dL_law_334 : decode cL_law 334 = .ok (.aload_n 2, 1) := by decide +kernel
theorem dL_law_335 : decode cL_law 335 = .ok (.aload_n 0, 1) := by decide +kernel
theorem dL_law_336 : decode cL_law 336 = .ok (.iload_n 3, 1) := by decide +kernel
theorem dL_law_337 : decode cL_law 337 = .ok (.iconst 1, 1) := by decide +kernel
theorem dL_law_338 : decode cL_law 338 = .ok (.iadd, 1) := by decide +kernel
theorem dL_law_339 : decode cL_law 339 = .ok (.iaload, 1) := by decide +kernel
theorem dL_law_340 : decode cL_law 340 = .ok (.aload_n 0, 1) := by decide +kernel
theorem dL_law_341 : decode cL_law 341 = .ok (.iload_n 3, 1) := by decide +kernel
theorem dL_law_342 : decode cL_law 342 = .ok (.iconst 2, 1) := by decide +kernel
theorem dL_law_343 : decode cL_law 343 = .ok (.iadd, 1) := by decide +kernel
theorem dL_law_344 : decode cL_law 344 = .ok (.iaload, 1) := by decide +kernel
theorem dL_law_345 : decode cL_law 345 = .ok (.aload_n 0, 1) := by decide +kernel
theorem dL_law_346 : decode cL_law 346 = .ok (.iload_n 3, 1) := by decide +kernel
theorem dL_law_347 : decode cL_law 347 = .ok (.iconst 3, 1) := by decide +kernel
theorem dL_law_348 : decode cL_law 348 = .ok (.iadd, 1) := by decide +kernel
theorem dL_law_349 : decode cL_law 349 = .ok (.iaload, 1) := by decide +kernel
theorem dL_law_350 : decode cL_law 350 = .ok (.invokevirtual 45, 3) := by decide +kernel
theorem dL_law_353 : decode cL_law 353 = .ok (.if_icmp .eq 410, 3) := by decide +kernel
theorem dL_law_356 : decode cL_law 356 = .ok (.iconst 0, 1) := by decide +kernel
theorem dL_law_357 : decode cL_law 357 = .ok (.ireturn, 1) := by decide +kernel
theorem dL_law_358 : decode cL_law 358 = .ok (.aload_n 1, 1) := by decide +kernel
theorem dL_law_359 : decode cL_law 359 = .ok (.aload_n 0, 1) := by decide +kernel
theorem dL_law_360 : decode cL_law 360 = .ok (.iload_n 3, 1) := by decide +kernel
theorem dL_law_361 : decode cL_law 361 = .ok (.iconst 1, 1) := by decide +kernel
theorem dL_law_362 : decode cL_law 362 = .ok (.iadd, 1) := by decide +kernel
theorem dL_law_363 : decode cL_law 363 = .ok (.iaload, 1) := by decide +kernel
theorem dL_law_364 : decode cL_law 364 = .ok (.invokevirtual 46, 3) := by decide +kernel
theorem dL_law_367 : decode cL_law 367 = .ok (.aload_n 2, 1) := by decide +kernel
theorem dL_law_368 : decode cL_law 368 = .ok (.aload_n 0, 1) := by decide +kernel
theorem dL_law_369 : decode cL_law 369 = .ok (.iload_n 3, 1) := by decide +kernel
theorem dL_law_370 : decode cL_law 370 = .ok (.iconst 1, 1) := by decide +kernel
theorem dL_law_371 : decode cL_law 371 = .ok (.iadd, 1) := by decide +kernel
theorem dL_law_372 : decode cL_law 372 = .ok (.iaload, 1) := by decide +kernel
theorem dL_law_373 : decode cL_law 373 = .ok (.invokevirtual 49, 3) := by decide +kernel
theorem dL_law_376 : decode cL_law 376 = .ok (.if_icmp .eq 387, 3) := by decide +kernel
theorem dL_law_379 : decode cL_law 379 = .ok (.iconst 0, 1) := by decide +kernel
theorem dL_law_380 : decode cL_law 380 = .ok (.ireturn, 1) := by decide +kernel
theorem dL_law_381 : decode cL_law 381 = .ok (.aload_n 1, 1) := by decide +kernel
theorem dL_law_382 : decode cL_law 382 = .ok (.aload_n 0, 1) := by decide +kernel
theorem dL_law_383 : decode cL_law 383 = .ok (.iload_n 3, 1) := by decide +kernel
theorem dL_law_384 : decode cL_law 384 = .ok (.iconst 1, 1) := by decide +kernel
theorem dL_law_385 : decode cL_law 385 = .ok (.iadd, 1) := by decide +kernel
theorem dL_law_386 : decode cL_law 386 = .ok (.iaload, 1) := by decide +kernel
theorem dL_law_387 : decode cL_law 387 = .ok (.aload_n 0, 1) := by decide +kernel
theorem dL_law_388 : decode cL_law 388 = .ok (.iload_n 3, 1) := by decide +kernel
theorem dL_law_389 : decode cL_law 389 = .ok (.iconst 2, 1) := by decide +kernel
theorem dL_law_390 : decode cL_law 390 = .ok (.iadd, 1) := by decide +kernel
theorem dL_law_391 : decode cL_law 391 = .ok (.iaload, 1) := by decide +kernel
theorem dL_law_392 : decode cL_law 392 = .ok (.invokevirtual 50, 3) := by decide +kernel
theorem dL_law_395 : decode cL_law 395 = .ok (.aload_n 2, 1) := by decide +kernel
theorem dL_law_396 : decode cL_law 396 = .ok (.aload_n 0, 1) := by decide +kernel
theorem dL_law_397 : decode cL_law 397 = .ok (.iload_n 3, 1) := by decide +kernel
theorem dL_law_398 : decode cL_law 398 = .ok (.iconst 1, 1) := by decide +kernel
theorem dL_law_399 : decode cL_law 399 = .ok (.iadd, 1) := by decide +kernel
theorem dL_law_400 : decode cL_law 400 = .ok (.iaload, 1) := by decide +kernel
theorem dL_law_401 : decode cL_law 401 = .ok (.aload_n 0, 1) := by decide +kernel
theorem dL_law_402 : decode cL_law 402 = .ok (.iload_n 3, 1) := by decide +kernel
theorem dL_law_403 : decode cL_law 403 = .ok (.iconst 2, 1) := by decide +kernel
theorem dL_law_404 : decode cL_law 404 = .ok (.iadd, 1) := by decide +kernel
theorem dL_law_405 : decode cL_law 405 = .ok (.iaload, 1) := by decide +kernel
theorem dL_law_406 : decode cL_law 406 = .ok (.invokevirtual 54, 3) := by decide +kernel
theorem dL_law_409 : decode cL_law 409 = .ok (.lcmp, 1) := by decide +kernel
theorem dL_law_410 : decode cL_law 410 = .ok (.ifCond .eq 353, 3) := by decide +kernel
theorem dL_law_413 : decode cL_law 413 = .ok (.iconst 0, 1) := by decide +kernel
theorem dL_law_414 : decode cL_law 414 = .ok (.ireturn, 1) := by decide +kernel
theorem dL_law_415 : decode cL_law 415 = .ok (.aload_n 1, 1) := by decide +kernel
theorem dL_law_416 : decode cL_law 416 = .ok (.aload_n 0, 1) := by decide +kernel
theorem dL_law_417 : decode cL_law 417 = .ok (.iload_n 3, 1) := by decide +kernel
theorem dL_law_418 : decode cL_law 418 = .ok (.iconst 1, 1) := by decide +kernel
theorem dL_law_419 : decode cL_law 419 = .ok (.iadd, 1) := by decide +kernel
theorem dL_law_420 : decode cL_law 420 = .ok (.iaload, 1) := by decide +kernel
theorem dL_law_421 : decode cL_law 421 = .ok (.aload_n 0, 1) := by decide +kernel
theorem dL_law_422 : decode cL_law 422 = .ok (.iload_n 3, 1) := by decide +kernel
theorem dL_law_423 : decode cL_law 423 = .ok (.iconst 2, 1) := by decide +kernel
theorem dL_law_424 : decode cL_law 424 = .ok (.iadd, 1) := by decide +kernel
theorem dL_law_425 : decode cL_law 425 = .ok (.iaload, 1) := by decide +kernel
theorem dL_law_426 : decode cL_law 426 = .ok (.aload_n 0, 1) := by decide +kernel
theorem dL_law_427 : decode cL_law 427 = .ok (.iload_n 3, 1) := by decide +kernel
theorem dL_law_428 : decode cL_law 428 = .ok (.iconst 3, 1) := by decide +kernel
theorem dL_law_429 : decode cL_law 429 = .ok (.iadd, 1) := by decide +kernel
theorem dL_law_430 : decode cL_law 430 = .ok (.iaload, 1) := by decide +kernel
theorem dL_law_431 : decode cL_law 431 = .ok (.invokevirtual 55, 3) := by decide +kernel
theorem dL_law_434 : decode cL_law 434 = .ok (.aload_n 2, 1) := by decide +kernel
theorem dL_law_435 : decode cL_law 435 = .ok (.aload_n 0, 1) := by decide +kernel
theorem dL_law_436 : decode cL_law 436 = .ok (.iload_n 3, 1) := by decide +kernel
theorem dL_law_437 : decode cL_law 437 = .ok (.iconst 1, 1) := by decide +kernel
theorem dL_law_438 : decode cL_law 438 = .ok (.iadd, 1) := by decide +kernel
theorem dL_law_439 : decode cL_law 439 = .ok (.iaload, 1) := by decide +kernel
theorem dL_law_440 : decode cL_law 440 = .ok (.aload_n 0, 1) := by decide +kernel
theorem dL_law_441 : decode cL_law 441 = .ok (.iload_n 3, 1) := by decide +kernel
theorem dL_law_442 : decode cL_law 442 = .ok (.iconst 2, 1) := by decide +kernel
theorem dL_law_443 : decode cL_law 443 = .ok (.iadd, 1) := by decide +kernel
theorem dL_law_444 : decode cL_law 444 = .ok (.iaload, 1) := by decide +kernel
theorem dL_law_445 : decode cL_law 445 = .ok (.aload_n 0, 1) := by decide +kernel
theorem dL_law_446 : decode cL_law 446 = .ok (.iload_n 3, 1) := by decide +kernel
theorem dL_law_447 : decode cL_law 447 = .ok (.iconst 3, 1) := by decide +kernel
theorem dL_law_448 : decode cL_law 448 = .ok (.iadd, 1) := by decide +kernel
theorem dL_law_449 : decode cL_law 449 = .ok (.iaload, 1) := by decide +kernel
theorem dL_law_450 : decode cL_law 450 = .ok (.invokevirtual 59, 3) := by decide +kernel
theorem dL_law_453 : decode cL_law 453 = .ok (.lcmp, 1) := by decide +kernel
theorem dL_law_454 : decode cL_law 454 = .ok (.ifCond .eq 309, 3) := by decide +kernel
theorem dL_law_457 : decode cL_law 457 = .ok (.iconst 0, 1) := by decide +kernel
theorem dL_law_458 : decode cL_law 458 = .ok (.ireturn, 1) := by decide +kernel
theorem dL_law_459 : decode cL_law 459 = .ok (.aload_n 1, 1) := by decide +kernel
theorem dL_law_460 : decode cL_law 460 = .ok (.aload_n 0, 1) := by decide +kernel
theorem dL_law_461 : decode cL_law 461 = .ok (.iload_n 3, 1) := by decide +kernel
theorem dL_law_462 : decode cL_law 462 = .ok (.iconst 1, 1) := by decide +kernel
theorem dL_law_463 : decode cL_law 463 = .ok (.iadd, 1) := by decide +kernel
theorem dL_law_464 : decode cL_law 464 = .ok (.iaload, 1) := by decide +kernel
theorem dL_law_465 : decode cL_law 465 = .ok (.aload_n 0, 1) := by decide +kernel
theorem dL_law_466 : decode cL_law 466 = .ok (.iload_n 3, 1) := by decide +kernel
theorem dL_law_467 : decode cL_law 467 = .ok (.iconst 2, 1) := by decide +kernel
theorem dL_law_468 : decode cL_law 468 = .ok (.iadd, 1) := by decide +kernel
theorem dL_law_469 : decode cL_law 469 = .ok (.iaload, 1) := by decide +kernel
theorem dL_law_470 : decode cL_law 470 = .ok (.invokevirtual 60, 3) := by decide +kernel
theorem dL_law_473 : decode cL_law 473 = .ok (.aload_n 2, 1) := by decide +kernel
theorem dL_law_474 : decode cL_law 474 = .ok (.aload_n 0, 1) := by decide +kernel
theorem dL_law_475 : decode cL_law 475 = .ok (.iload_n 3, 1) := by decide +kernel
theorem dL_law_476 : decode cL_law 476 = .ok (.iconst 1, 1) := by decide +kernel
theorem dL_law_477 : decode cL_law 477 = .ok (.iadd, 1) := by decide +kernel
theorem dL_law_478 : decode cL_law 478 = .ok (.iaload, 1) := by decide +kernel
theorem dL_law_479 : decode cL_law 479 = .ok (.aload_n 0, 1) := by decide +kernel
theorem dL_law_480 : decode cL_law 480 = .ok (.iload_n 3, 1) := by decide +kernel
theorem dL_law_481 : decode cL_law 481 = .ok (.iconst 2, 1) := by decide +kernel
theorem dL_law_482 : decode cL_law 482 = .ok (.iadd, 1) := by decide +kernel
theorem dL_law_483 : decode cL_law 483 = .ok (.iaload, 1) := by decide +kernel
theorem dL_law_484 : decode cL_law 484 = .ok (.invokevirtual 63, 3) := by decide +kernel
theorem dL_law_487 : decode cL_law 487 = .ok (.lcmp, 1) := by decide +kernel
theorem dL_law_488 : decode cL_law 488 = .ok (.ifCond .eq 275, 3) := by decide +kernel
theorem dL_law_491 : decode cL_law 491 = .ok (.iconst 0, 1) := by decide +kernel
theorem dL_law_492 : decode cL_law 492 = .ok (.ireturn, 1) := by decide +kernel
theorem dL_law_493 : decode cL_law 493 = .ok (.aload_n 1, 1) := by decide +kernel
theorem dL_law_494 : decode cL_law 494 = .ok (.aload_n 0, 1) := by decide +kernel
theorem dL_law_495 : decode cL_law 495 = .ok (.iload_n 3, 1) := by decide +kernel
theorem dL_law_496 : decode cL_law 496 = .ok (.iconst 1, 1) := by decide +kernel
theorem dL_law_497 : decode cL_law 497 = .ok (.iadd, 1) := by decide +kernel
theorem dL_law_498 : decode cL_law 498 = .ok (.iaload, 1) := by decide +kernel
theorem dL_law_499 : decode cL_law 499 = .ok (.invokevirtual 64, 3) := by decide +kernel
theorem dL_law_502 : decode cL_law 502 = .ok (.aload_n 2, 1) := by decide +kernel
theorem dL_law_503 : decode cL_law 503 = .ok (.aload_n 0, 1) := by decide +kernel
theorem dL_law_504 : decode cL_law 504 = .ok (.iload_n 3, 1) := by decide +kernel
theorem dL_law_505 : decode cL_law 505 = .ok (.iconst 1, 1) := by decide +kernel
theorem dL_law_506 : decode cL_law 506 = .ok (.iadd, 1) := by decide +kernel
theorem dL_law_507 : decode cL_law 507 = .ok (.iaload, 1) := by decide +kernel
theorem dL_law_508 : decode cL_law 508 = .ok (.invokevirtual 68, 3) := by decide +kernel
theorem dL_law_511 : decode cL_law 511 = .ok (.lcmp, 1) := by decide +kernel
theorem dL_law_512 : decode cL_law 512 = .ok (.ifCond .eq 251, 3) := by decide +kernel
theorem dL_law_515 : decode cL_law 515 = .ok (.iconst 0, 1) := by decide +kernel
theorem dL_law_516 : decode cL_law 516 = .ok (.ireturn, 1) := by decide +kernel
theorem dL_law_517 : decode cL_law 517 = .ok (.aload_n 1, 1) := by decide +kernel
theorem dL_law_518 : decode cL_law 518 = .ok (.aload_n 0, 1) := by decide +kernel
theorem dL_law_519 : decode cL_law 519 = .ok (.iload_n 3, 1) := by decide +kernel
theorem dL_law_520 : decode cL_law 520 = .ok (.iconst 1, 1) := by decide +kernel
theorem dL_law_521 : decode cL_law 521 = .ok (.iadd, 1) := by decide +kernel
theorem dL_law_522 : decode cL_law 522 = .ok (.iaload, 1) := by decide +kernel
theorem dL_law_523 : decode cL_law 523 = .ok (.aload_n 0, 1) := by decide +kernel
theorem dL_law_524 : decode cL_law 524 = .ok (.iload_n 3, 1) := by decide +kernel
theorem dL_law_525 : decode cL_law 525 = .ok (.iconst 2, 1) := by decide +kernel
theorem dL_law_526 : decode cL_law 526 = .ok (.iadd, 1) := by decide +kernel
theorem dL_law_527 : decode cL_law 527 = .ok (.iaload, 1) := by decide +kernel
theorem dL_law_528 : decode cL_law 528 = .ok (.i2l, 1) := by decide +kernel
theorem dL_law_529 : decode cL_law 529 = .ok (.bipush 32, 2) := by decide +kernel
theorem dL_law_531 : decode cL_law 531 = .ok (.lshl, 1) := by decide +kernel
theorem dL_law_532 : decode cL_law 532 = .ok (.aload_n 0, 1) := by decide +kernel
theorem dL_law_533 : decode cL_law 533 = .ok (.iload_n 3, 1) := by decide +kernel
theorem dL_law_534 : decode cL_law 534 = .ok (.iconst 3, 1) := by decide +kernel
theorem dL_law_535 : decode cL_law 535 = .ok (.iadd, 1) := by decide +kernel
theorem dL_law_536 : decode cL_law 536 = .ok (.iaload, 1) := by decide +kernel
theorem dL_law_537 : decode cL_law 537 = .ok (.i2l, 1) := by decide +kernel
theorem dL_law_538 : decode cL_law 538 = .ok (.ldc2_w 69, 3) := by decide +kernel
theorem dL_law_541 : decode cL_law 541 = .ok (.land, 1) := by decide +kernel
theorem dL_law_542 : decode cL_law 542 = .ok (.lor, 1) := by decide +kernel
theorem dL_law_543 : decode cL_law 543 = .ok (.aload_n 0, 1) := by decide +kernel
theorem dL_law_544 : decode cL_law 544 = .ok (.iload_n 3, 1) := by decide +kernel
theorem dL_law_545 : decode cL_law 545 = .ok (.iconst 4, 1) := by decide +kernel
theorem dL_law_546 : decode cL_law 546 = .ok (.iadd, 1) := by decide +kernel
theorem dL_law_547 : decode cL_law 547 = .ok (.iaload, 1) := by decide +kernel
theorem dL_law_548 : decode cL_law 548 = .ok (.i2l, 1) := by decide +kernel
theorem dL_law_549 : decode cL_law 549 = .ok (.bipush 32, 2) := by decide +kernel
theorem dL_law_551 : decode cL_law 551 = .ok (.lshl, 1) := by decide +kernel
theorem dL_law_552 : decode cL_law 552 = .ok (.aload_n 0, 1) := by decide +kernel
theorem dL_law_553 : decode cL_law 553 = .ok (.iload_n 3, 1) := by decide +kernel
theorem dL_law_554 : decode cL_law 554 = .ok (.iconst 5, 1) := by decide +kernel
theorem dL_law_555 : decode cL_law 555 = .ok (.iadd, 1) := by decide +kernel
theorem dL_law_556 : decode cL_law 556 = .ok (.iaload, 1) := by decide +kernel
theorem dL_law_557 : decode cL_law 557 = .ok (.i2l, 1) := by decide +kernel
theorem dL_law_558 : decode cL_law 558 = .ok (.ldc2_w 69, 3) := by decide +kernel
theorem dL_law_561 : decode cL_law 561 = .ok (.land, 1) := by decide +kernel
theorem dL_law_562 : decode cL_law 562 = .ok (.lor, 1) := by decide +kernel
theorem dL_law_563 : decode cL_law 563 = .ok (.invokevirtual 71, 3) := by decide +kernel
theorem dL_law_566 : decode cL_law 566 = .ok (.aload_n 2, 1) := by decide +kernel
theorem dL_law_567 : decode cL_law 567 = .ok (.aload_n 0, 1) := by decide +kernel
theorem dL_law_568 : decode cL_law 568 = .ok (.iload_n 3, 1) := by decide +kernel
theorem dL_law_569 : decode cL_law 569 = .ok (.iconst 1, 1) := by decide +kernel
theorem dL_law_570 : decode cL_law 570 = .ok (.iadd, 1) := by decide +kernel
theorem dL_law_571 : decode cL_law 571 = .ok (.iaload, 1) := by decide +kernel
theorem dL_law_572 : decode cL_law 572 = .ok (.aload_n 0, 1) := by decide +kernel
theorem dL_law_573 : decode cL_law 573 = .ok (.iload_n 3, 1) := by decide +kernel
theorem dL_law_574 : decode cL_law 574 = .ok (.iconst 2, 1) := by decide +kernel
theorem dL_law_575 : decode cL_law 575 = .ok (.iadd, 1) := by decide +kernel
theorem dL_law_576 : decode cL_law 576 = .ok (.iaload, 1) := by decide +kernel
theorem dL_law_577 : decode cL_law 577 = .ok (.i2l, 1) := by decide +kernel
theorem dL_law_578 : decode cL_law 578 = .ok (.bipush 32, 2) := by decide +kernel
theorem dL_law_580 : decode cL_law 580 = .ok (.lshl, 1) := by decide +kernel
theorem dL_law_581 : decode cL_law 581 = .ok (.aload_n 0, 1) := by decide +kernel
theorem dL_law_582 : decode cL_law 582 = .ok (.iload_n 3, 1) := by decide +kernel
theorem dL_law_583 : decode cL_law 583 = .ok (.iconst 3, 1) := by decide +kernel
theorem dL_law_584 : decode cL_law 584 = .ok (.iadd, 1) := by decide +kernel
theorem dL_law_585 : decode cL_law 585 = .ok (.iaload, 1) := by decide +kernel
theorem dL_law_586 : decode cL_law 586 = .ok (.i2l, 1) := by decide +kernel
theorem dL_law_587 : decode cL_law 587 = .ok (.ldc2_w 69, 3) := by decide +kernel
theorem dL_law_590 : decode cL_law 590 = .ok (.land, 1) := by decide +kernel
theorem dL_law_591 : decode cL_law 591 = .ok (.lor, 1) := by decide +kernel
theorem dL_law_592 : decode cL_law 592 = .ok (.aload_n 0, 1) := by decide +kernel
theorem dL_law_593 : decode cL_law 593 = .ok (.iload_n 3, 1) := by decide +kernel
theorem dL_law_594 : decode cL_law 594 = .ok (.iconst 4, 1) := by decide +kernel
theorem dL_law_595 : decode cL_law 595 = .ok (.iadd, 1) := by decide +kernel
theorem dL_law_596 : decode cL_law 596 = .ok (.iaload, 1) := by decide +kernel
theorem dL_law_597 : decode cL_law 597 = .ok (.i2l, 1) := by decide +kernel
theorem dL_law_598 : decode cL_law 598 = .ok (.bipush 32, 2) := by decide +kernel
theorem dL_law_600 : decode cL_law 600 = .ok (.lshl, 1) := by decide +kernel
theorem dL_law_601 : decode cL_law 601 = .ok (.aload_n 0, 1) := by decide +kernel
theorem dL_law_602 : decode cL_law 602 = .ok (.iload_n 3, 1) := by decide +kernel
theorem dL_law_603 : decode cL_law 603 = .ok (.iconst 5, 1) := by decide +kernel
theorem dL_law_604 : decode cL_law 604 = .ok (.iadd, 1) := by decide +kernel
theorem dL_law_605 : decode cL_law 605 = .ok (.iaload, 1) := by decide +kernel
theorem dL_law_606 : decode cL_law 606 = .ok (.i2l, 1) := by decide +kernel
theorem dL_law_607 : decode cL_law 607 = .ok (.ldc2_w 69, 3) := by decide +kernel
theorem dL_law_610 : decode cL_law 610 = .ok (.land, 1) := by decide +kernel
theorem dL_law_611 : decode cL_law 611 = .ok (.lor, 1) := by decide +kernel
theorem dL_law_612 : decode cL_law 612 = .ok (.invokevirtual 75, 3) := by decide +kernel
theorem dL_law_615 : decode cL_law 615 = .ok (.if_icmp .eq 148, 3) := by decide +kernel
theorem dL_law_618 : decode cL_law 618 = .ok (.iconst 0, 1) := by decide +kernel
theorem dL_law_619 : decode cL_law 619 = .ok (.ireturn, 1) := by decide +kernel
theorem dL_law_620 : decode cL_law 620 = .ok (.aload_n 1, 1) := by decide +kernel
theorem dL_law_621 : decode cL_law 621 = .ok (.invokevirtual 76, 3) := by decide +kernel
theorem dL_law_624 : decode cL_law 624 = .ok (.aload_n 2, 1) := by decide +kernel
theorem dL_law_625 : decode cL_law 625 = .ok (.invokevirtual 79, 3) := by decide +kernel
theorem dL_law_628 : decode cL_law 628 = .ok (.if_icmp .eq 135, 3) := by decide +kernel
theorem dL_law_631 : decode cL_law 631 = .ok (.iconst 0, 1) := by decide +kernel
theorem dL_law_632 : decode cL_law 632 = .ok (.ireturn, 1) := by decide +kernel
theorem dL_law_633 : decode cL_law 633 = .ok (.aload_n 1, 1) := by decide +kernel
theorem dL_law_634 : decode cL_law 634 = .ok (.invokevirtual 80, 3) := by decide +kernel
theorem dL_law_637 : decode cL_law 637 = .ok (.aload_n 2, 1) := by decide +kernel
theorem dL_law_638 : decode cL_law 638 = .ok (.invokevirtual 83, 3) := by decide +kernel
theorem dL_law_641 : decode cL_law 641 = .ok (.if_icmp .eq 122, 3) := by decide +kernel
theorem dL_law_644 : decode cL_law 644 = .ok (.iconst 0, 1) := by decide +kernel
theorem dL_law_645 : decode cL_law 645 = .ok (.ireturn, 1) := by decide +kernel
theorem dL_law_646 : decode cL_law 646 = .ok (.aload_n 1, 1) := by decide +kernel
theorem dL_law_647 : decode cL_law 647 = .ok (.aload_n 0, 1) := by decide +kernel
theorem dL_law_648 : decode cL_law 648 = .ok (.iload_n 3, 1) := by decide +kernel
theorem dL_law_649 : decode cL_law 649 = .ok (.iconst 1, 1) := by decide +kernel
theorem dL_law_650 : decode cL_law 650 = .ok (.iadd, 1) := by decide +kernel
theorem dL_law_651 : decode cL_law 651 = .ok (.iaload, 1) := by decide +kernel
theorem dL_law_652 : decode cL_law 652 = .ok (.i2l, 1) := by decide +kernel
theorem dL_law_653 : decode cL_law 653 = .ok (.bipush 32, 2) := by decide +kernel
theorem dL_law_655 : decode cL_law 655 = .ok (.lshl, 1) := by decide +kernel
theorem dL_law_656 : decode cL_law 656 = .ok (.aload_n 0, 1) := by decide +kernel
theorem dL_law_657 : decode cL_law 657 = .ok (.iload_n 3, 1) := by decide +kernel
theorem dL_law_658 : decode cL_law 658 = .ok (.iconst 2, 1) := by decide +kernel
theorem dL_law_659 : decode cL_law 659 = .ok (.iadd, 1) := by decide +kernel
theorem dL_law_660 : decode cL_law 660 = .ok (.iaload, 1) := by decide +kernel
theorem dL_law_661 : decode cL_law 661 = .ok (.i2l, 1) := by decide +kernel
theorem dL_law_662 : decode cL_law 662 = .ok (.ldc2_w 69, 3) := by decide +kernel
theorem dL_law_665 : decode cL_law 665 = .ok (.land, 1) := by decide +kernel
theorem dL_law_666 : decode cL_law 666 = .ok (.lor, 1) := by decide +kernel
theorem dL_law_667 : decode cL_law 667 = .ok (.aload_n 0, 1) := by decide +kernel
theorem dL_law_668 : decode cL_law 668 = .ok (.iload_n 3, 1) := by decide +kernel
theorem dL_law_669 : decode cL_law 669 = .ok (.iconst 3, 1) := by decide +kernel
theorem dL_law_670 : decode cL_law 670 = .ok (.iadd, 1) := by decide +kernel
theorem dL_law_671 : decode cL_law 671 = .ok (.iaload, 1) := by decide +kernel
theorem dL_law_672 : decode cL_law 672 = .ok (.i2l, 1) := by decide +kernel
theorem dL_law_673 : decode cL_law 673 = .ok (.bipush 32, 2) := by decide +kernel
theorem dL_law_675 : decode cL_law 675 = .ok (.lshl, 1) := by decide +kernel
theorem dL_law_676 : decode cL_law 676 = .ok (.aload_n 0, 1) := by decide +kernel
theorem dL_law_677 : decode cL_law 677 = .ok (.iload_n 3, 1) := by decide +kernel
theorem dL_law_678 : decode cL_law 678 = .ok (.iconst 4, 1) := by decide +kernel
theorem dL_law_679 : decode cL_law 679 = .ok (.iadd, 1) := by decide +kernel
theorem dL_law_680 : decode cL_law 680 = .ok (.iaload, 1) := by decide +kernel
theorem dL_law_681 : decode cL_law 681 = .ok (.i2l, 1) := by decide +kernel
theorem dL_law_682 : decode cL_law 682 = .ok (.ldc2_w 69, 3) := by decide +kernel
theorem dL_law_685 : decode cL_law 685 = .ok (.land, 1) := by decide +kernel
theorem dL_law_686 : decode cL_law 686 = .ok (.lor, 1) := by decide +kernel
theorem dL_law_687 : decode cL_law 687 = .ok (.invokevirtual 84, 3) := by decide +kernel
theorem dL_law_690 : decode cL_law 690 = .ok (.aload_n 2, 1) := by decide +kernel
theorem dL_law_691 : decode cL_law 691 = .ok (.aload_n 0, 1) := by decide +kernel
theorem dL_law_692 : decode cL_law 692 = .ok (.iload_n 3, 1) := by decide +kernel
theorem dL_law_693 : decode cL_law 693 = .ok (.iconst 1, 1) := by decide +kernel
theorem dL_law_694 : decode cL_law 694 = .ok (.iadd, 1) := by decide +kernel
theorem dL_law_695 : decode cL_law 695 = .ok (.iaload, 1) := by decide +kernel
theorem dL_law_696 : decode cL_law 696 = .ok (.i2l, 1) := by decide +kernel
theorem dL_law_697 : decode cL_law 697 = .ok (.bipush 32, 2) := by decide +kernel
theorem dL_law_699 : decode cL_law 699 = .ok (.lshl, 1) := by decide +kernel
theorem dL_law_700 : decode cL_law 700 = .ok (.aload_n 0, 1) := by decide +kernel
theorem dL_law_701 : decode cL_law 701 = .ok (.iload_n 3, 1) := by decide +kernel
theorem dL_law_702 : decode cL_law 702 = .ok (.iconst 2, 1) := by decide +kernel
theorem dL_law_703 : decode cL_law 703 = .ok (.iadd, 1) := by decide +kernel
theorem dL_law_704 : decode cL_law 704 = .ok (.iaload, 1) := by decide +kernel
theorem dL_law_705 : decode cL_law 705 = .ok (.i2l, 1) := by decide +kernel
theorem dL_law_706 : decode cL_law 706 = .ok (.ldc2_w 69, 3) := by decide +kernel
theorem dL_law_709 : decode cL_law 709 = .ok (.land, 1) := by decide +kernel
theorem dL_law_710 : decode cL_law 710 = .ok (.lor, 1) := by decide +kernel
theorem dL_law_711 : decode cL_law 711 = .ok (.aload_n 0, 1) := by decide +kernel
theorem dL_law_712 : decode cL_law 712 = .ok (.iload_n 3, 1) := by decide +kernel
theorem dL_law_713 : decode cL_law 713 = .ok (.iconst 3, 1) := by decide +kernel
theorem dL_law_714 : decode cL_law 714 = .ok (.iadd, 1) := by decide +kernel
theorem dL_law_715 : decode cL_law 715 = .ok (.iaload, 1) := by decide +kernel
theorem dL_law_716 : decode cL_law 716 = .ok (.i2l, 1) := by decide +kernel
theorem dL_law_717 : decode cL_law 717 = .ok (.bipush 32, 2) := by decide +kernel
theorem dL_law_719 : decode cL_law 719 = .ok (.lshl, 1) := by decide +kernel
theorem dL_law_720 : decode cL_law 720 = .ok (.aload_n 0, 1) := by decide +kernel
theorem dL_law_721 : decode cL_law 721 = .ok (.iload_n 3, 1) := by decide +kernel
theorem dL_law_722 : decode cL_law 722 = .ok (.iconst 4, 1) := by decide +kernel
theorem dL_law_723 : decode cL_law 723 = .ok (.iadd, 1) := by decide +kernel
theorem dL_law_724 : decode cL_law 724 = .ok (.iaload, 1) := by decide +kernel
theorem dL_law_725 : decode cL_law 725 = .ok (.i2l, 1) := by decide +kernel
theorem dL_law_726 : decode cL_law 726 = .ok (.ldc2_w 69, 3) := by decide +kernel
theorem dL_law_729 : decode cL_law 729 = .ok (.land, 1) := by decide +kernel
theorem dL_law_730 : decode cL_law 730 = .ok (.lor, 1) := by decide +kernel
theorem dL_law_731 : decode cL_law 731 = .ok (.invokevirtual 88, 3) := by decide +kernel
theorem dL_law_734 : decode cL_law 734 = .ok (.lcmp, 1) := by decide +kernel
theorem dL_law_735 : decode cL_law 735 = .ok (.ifCond .eq 28, 3) := by decide +kernel
theorem dL_law_738 : decode cL_law 738 = .ok (.iconst 0, 1) := by decide +kernel
theorem dL_law_739 : decode cL_law 739 = .ok (.ireturn, 1) := by decide +kernel
theorem dL_law_740 : decode cL_law 740 = .ok (.aload_n 1, 1) := by decide +kernel
theorem dL_law_741 : decode cL_law 741 = .ok (.aload_n 0, 1) := by decide +kernel
theorem dL_law_742 : decode cL_law 742 = .ok (.iload_n 3, 1) := by decide +kernel
theorem dL_law_743 : decode cL_law 743 = .ok (.iconst 1, 1) := by decide +kernel
theorem dL_law_744 : decode cL_law 744 = .ok (.iadd, 1) := by decide +kernel
theorem dL_law_745 : decode cL_law 745 = .ok (.iaload, 1) := by decide +kernel
theorem dL_law_746 : decode cL_law 746 = .ok (.invokevirtual 89, 3) := by decide +kernel
theorem dL_law_749 : decode cL_law 749 = .ok (.aload_n 2, 1) := by decide +kernel
theorem dL_law_750 : decode cL_law 750 = .ok (.aload_n 0, 1) := by decide +kernel
theorem dL_law_751 : decode cL_law 751 = .ok (.iload_n 3, 1) := by decide +kernel
theorem dL_law_752 : decode cL_law 752 = .ok (.iconst 1, 1) := by decide +kernel
theorem dL_law_753 : decode cL_law 753 = .ok (.iadd, 1) := by decide +kernel
theorem dL_law_754 : decode cL_law 754 = .ok (.iaload, 1) := by decide +kernel
theorem dL_law_755 : decode cL_law 755 = .ok (.invokevirtual 92, 3) := by decide +kernel
theorem dL_law_758 : decode cL_law 758 = .ok (.if_icmp .eq 5, 3) := by decide +kernel
theorem dL_law_761 : decode cL_law 761 = .ok (.iconst 0, 1) := by decide +kernel
theorem dL_law_762 : decode cL_law 762 = .ok (.ireturn, 1) := by decide +kernel
theorem dL_law_763 : decode cL_law 763 = .ok (.iinc 3 6, 3) := by decide +kernel
theorem dL_law_766 : decode cL_law 766 = .ok (.goto (-748), 3) := by decide +kernel
theorem dL_law_769 : decode cL_law 769 = .ok (.iconst 1, 1) := by decide +kernel
theorem dL_law_770 : decode cL_law 770 = .ok (.ireturn, 1) := by decide +kernel
end
section
/-! ===== the words: those that a call carries by itself, and the others (nest mates, arrays of references) ===== -/
def tblG : List Cond := lw_tbl.filter goodWord
def isXw : Cond → Bool
  | .fieldLinkNest .. => true
  | .methodLinkNest .. => true
  | .arrayOver (.object _) => true
  | _ => false
def xw : List Cond := lw_tbl.filter isXw
def NW (U : State) : Prop := ∀ w ∈ xw, va_Nw w U
theorem NW.same {u U : State} (h : u.vm = U.vm) (hn : NW u) : NW U := by
  intro w hw
  have hk := (List.mem_filter.mp hw).2
  have h1 := hn w hw
  cases w <;> first | (simp [isXw] at hk; done) | exact va_Nw.same rfl h h1 | (rename_i t; cases t <;> first | (simp [isXw] at hk; done) | exact va_AO.moved (by rw [h]; exact Vm.Alike.refl _) h1)
theorem NW.warm {s U : State} (hW : s.WarmedH U.vm) (hn : NW s) : NW U := by
  intro w hw
  have hk := (List.mem_filter.mp hw).2
  have h1 := hn w hw
  cases w <;> first | (simp [isXw] at hk; done) | exact va_Nw.warmF hW h1 | exact va_Nw.warmM hW h1 | (rename_i t; cases t <;> first | (simp [isXw] at hk; done) | exact va_AO.moved hW.alike h1)
set_option maxRecDepth 100000 in
theorem xx_ig : ∀ w ∈ (wsX00 ++ wsX10 ++ wsX20 ++ wsX30 ++ wsX40 ++ wsX50 ++ wsX60 ++ wsX70), w ∈ tblG := by decide +kernel
/-! ===== regions: one object with all that it made; its primitive contents as functions of offset and place ===== -/
abbrev ShT : Type := Nat × Nat × (Nat → Nat) × List (Nat × Nat)
abbrev RgT : Type := Nat × (Nat → ShT)
abbrev GT : Type := va_G × (Nat → ClassId) × Nat
abbrev II : Type := Nat → Nat → Int32
abbrev LL : Type := Nat → Nat → Int64
abbrev gB (G : GT) : Nat := G.2.2
def gTys (G : GT) : List (ClassId × FieldType) := [(G.2.1 0, .int), (G.2.1 1, .long), (G.2.1 2, .boolean), (G.2.1 3, .object RX2), (G.2.1 4, .object RX5), (G.2.1 5, .object RX1)]
def rg_fv (B : Nat) (I : II) (L : LL) (o k : Nat) (fd : Nat × Nat) : Value := if fd.1 = 0 then .int (I o k) else if fd.1 = 1 then .long (L o k) else if fd.1 = 2 then .ref (B + fd.2) else .null
def rg_fvs (B : Nat) (I : II) (L : LL) (o : Nat) : Nat → List (Nat × Nat) → List Value
  | _, [] => []
  | k, fd :: r => rg_fv B I L o k fd :: rg_fvs B I L o (k + 1) r
theorem rg_fvs_get (B : Nat) (I : II) (L : LL) (o : Nat) : ∀ (fs : List (Nat × Nat)) (j k : Nat), (rg_fvs B I L o j fs)[k]? = (fs[k]?).map (rg_fv B I L o (j + k))
  | [], j, k => by simp [rg_fvs]
  | fd :: r, j, 0 => by simp [rg_fvs]
  | fd :: r, j, k + 1 => by
    rw [rg_fvs, List.getElem?_cons_succ, rg_fvs_get B I L o r (j + 1) k, List.getElem?_cons_succ]
    congr 2
    omega
theorem rg_fvs_len (B : Nat) (I : II) (L : LL) (o : Nat) : ∀ (fs : List (Nat × Nat)) (j : Nat), (rg_fvs B I L o j fs).length = fs.length
  | [], j => rfl
  | fd :: r, j => by rw [rg_fvs, List.length_cons, rg_fvs_len B I L o r (j + 1), List.length_cons]
def rg_tg (B : Nat) (t : Nat) : Option Nat := if t = 0 then none else some (B + t)
def rg_cell (G : GT) (I : II) (L : LL) (o : Nat) (h : ShT) : va_E :=
  if h.1 = 0 then .inl (G.2.1 0, h.2.1, .inl (I o)) else if h.1 = 1 then .inl (G.2.1 1, h.2.1, .inr (.inl (L o))) else if h.1 = 2 then .inl (G.2.1 2, h.2.1, .inl (I o))
  else if h.1 < 6 then .inl (G.2.1 h.1, h.2.1, .inr (.inr (.inr (.inr (fun j => rg_tg (gB G) (h.2.2.1 j)))))) else .inr (h.1 - 6, rg_fvs (gB G) I L o 0 h.2.2.2)
def rg_W (G : GT) (rg : RgT) (I : II) (L : LL) : va_W := (List.range rg.1).map fun o => (gB G + o, rg_cell G I L o (rg.2 o))
def rg_A (G : GT) (rg : RgT) : Nat → Prop := fun q => gB G ≤ q ∧ q < gB G + rg.1
theorem rg_at {G : GT} {rg : RgT} {I : II} {L : LL} {o : Nat} (h : o < rg.1) : (rg_W G rg I L)[o]? = some (gB G + o, rg_cell G I L o (rg.2 o)) := by
  simp [rg_W, h]
theorem rg_at_inv {G : GT} {rg : RgT} {I : II} {L : LL} {o : Nat} {q : Nat × va_E} (h : (rg_W G rg I L)[o]? = some q) : o < rg.1 ∧ q = (gB G + o, rg_cell G I L o (rg.2 o)) := by
  have hl := (List.getElem?_eq_some_iff.mp h).1
  have h1 : o < rg.1 := by simpa [rg_W] using hl
  rw [rg_at h1] at h
  exact ⟨h1, (Option.some.inj h).symm⟩
theorem rg_D {G : GT} {rg : RgT} {I : II} {L : LL} : va_D (rg_A G rg) (rg_W G rg I L) := by
  refine ⟨fun i j x y hi hj hxy => ?_, fun k q hk => ?_⟩
  · obtain ⟨-, rfl⟩ := rg_at_inv hi
    obtain ⟨-, rfl⟩ := rg_at_inv hj
    exact Nat.add_left_cancel hxy
  · obtain ⟨h1, rfl⟩ := rg_at_inv hk
    exact ⟨Nat.le_add_right _ _, Nat.add_lt_add_left h1 _⟩
theorem rg_fvs_cong {B : Nat} {I I' : II} {L L' : LL} {o : Nat} (hI : I' o = I o) (hL : L' o = L o) : ∀ (fs : List (Nat × Nat)) (j : Nat), rg_fvs B I' L' o j fs = rg_fvs B I L o j fs
  | [], _ => rfl
  | fd :: r, j => by rw [rg_fvs, rg_fvs, rg_fvs_cong hI hL r (j + 1), rg_fv, rg_fv, hI, hL]
theorem rg_cell_cong {G : GT} {I I' : II} {L L' : LL} {o : Nat} {h : ShT} (hI : I' o = I o) (hL : L' o = L o) : rg_cell G I' L' o h = rg_cell G I L o h := by
  rw [rg_cell, rg_cell, hI, hL, rg_fvs_cong hI hL]
theorem rg_set {G : GT} {rg : RgT} {I I' : II} {L L' : LL} {o : Nat} {e : va_E} (ho : o < rg.1) (hI : ∀ q, q ≠ o → I' q = I q) (hL : ∀ q, q ≠ o → L' q = L q) (he : rg_cell G I' L' o (rg.2 o) = e) : (rg_W G rg I L).set o (gB G + o, e) = rg_W G rg I' L' := by
  apply List.ext_getElem?
  intro j
  by_cases hj : j = o
  · subst hj
    rw [List.getElem?_set_self (by simpa [rg_W] using ho), rg_at ho, he]
  · rw [List.getElem?_set_ne (Ne.symm hj)]
    by_cases hl : j < rg.1
    · rw [rg_at hl, rg_at hl, rg_cell_cong (hI j hj) (hL j hj)]
    · rw [List.getElem?_eq_none (by simpa [rg_W] using Nat.le_of_not_lt hl), List.getElem?_eq_none (by simpa [rg_W] using Nat.le_of_not_lt hl)]
def up2 {α : Type} (f : Nat → Nat → α) (o k : Nat) (v : α) : Nat → Nat → α := va_up f o (va_up (f o) k v)
theorem up2_ne {α : Type} (f : Nat → Nat → α) {o k q : Nat} {v : α} (h : q ≠ o) : up2 f o k v q = f q := va_up_ne _ _ h
theorem up2_at {α : Type} (f : Nat → Nat → α) (o k q j : Nat) (v : α) : up2 f o k v q j = if q = o then (if j = k then v else f q j) else f q j := by
  unfold up2 va_up
  by_cases h : q = o
  · subst h; simp
  · simp [h]
theorem rg_fvs_set {B : Nat} {I : II} {L : LL} {o k : Nat} {v : Int32} {z : Nat} : ∀ (fs : List (Nat × Nat)) (j i : Nat), j + i = k → fs[i]? = some (0, z) → (rg_fvs B I L o j fs).set i (.int v) = rg_fvs B (up2 I o k v) L o j fs
  | [], _, i, _, h => by simp at h
  | fd :: r, j, 0, e, h => by
    rw [List.getElem?_cons_zero] at h
    cases h
    have hr : ∀ (fs : List (Nat × Nat)) (q : Nat), k < q → rg_fvs B I L o q fs = rg_fvs B (up2 I o k v) L o q fs := by
      intro fs
      induction fs with
      | nil => intro q _; rfl
      | cons a r ih =>
        intro q hq
        rw [rg_fvs, rg_fvs, ih (q + 1) (by omega), rg_fv, rg_fv, up2_at]
        simp [show q ≠ k by omega]
    rw [rg_fvs, rg_fvs, List.set_cons_zero, hr r (j + 1) (by omega), rg_fv, up2_at]
    simp [show j = k by omega]
  | fd :: r, j, i + 1, e, h => by
    rw [List.getElem?_cons_succ] at h
    rw [rg_fvs, rg_fvs, List.set_cons_succ, rg_fvs_set (k := k) r (j + 1) i (by omega) h, rg_fv, rg_fv, up2_at]
    simp [show j ≠ k by omega]
theorem rg_fvs_setL {B : Nat} {I : II} {L : LL} {o k : Nat} {v : Int64} {z : Nat} : ∀ (fs : List (Nat × Nat)) (j i : Nat), j + i = k → fs[i]? = some (1, z) → (rg_fvs B I L o j fs).set i (.long v) = rg_fvs B I (up2 L o k v) o j fs
  | [], _, i, _, h => by simp at h
  | fd :: r, j, 0, e, h => by
    rw [List.getElem?_cons_zero] at h
    cases h
    have hr : ∀ (fs : List (Nat × Nat)) (q : Nat), k < q → rg_fvs B I L o q fs = rg_fvs B I (up2 L o k v) o q fs := by
      intro fs
      induction fs with
      | nil => intro q _; rfl
      | cons a r ih =>
        intro q hq
        rw [rg_fvs, rg_fvs, ih (q + 1) (by omega), rg_fv, rg_fv, up2_at]
        simp [show q ≠ k by omega]
    rw [rg_fvs, rg_fvs, List.set_cons_zero, hr r (j + 1) (by omega), rg_fv, up2_at]
    simp [show j = k by omega]
  | fd :: r, j, i + 1, e, h => by
    rw [List.getElem?_cons_succ] at h
    rw [rg_fvs, rg_fvs, List.set_cons_succ, rg_fvs_setL (k := k) r (j + 1) i (by omega) h, rg_fv, rg_fv, up2_at]
    simp [show j ≠ k by omega]
/-! ===== locals by place ===== -/
abbrev LV : Type := List (Option Value)
def asl : Nat → LV → List (Nat × Value)
  | _, [] => []
  | i, none :: r => asl (i + 1) r
  | i, some v :: r => (i, v) :: asl (i + 1) r
def dropc : Option Value → Option Value
  | some (.long _) => none
  | some (.double _) => none
  | w => w
def st1 : LV → Nat → Value → LV
  | [], _, _ => []
  | _ :: r, 0, v => some v :: r
  | a :: r, 1, v => dropc a :: st1 r 0 v
  | a :: r, n + 2, v => a :: st1 r (n + 1) v
def st2 : LV → Nat → Value → LV
  | [], _, _ => []
  | [_], 0, v => [some v]
  | _ :: _ :: r, 0, v => some v :: none :: r
  | a :: r, 1, v => dropc a :: st2 r 0 v
  | a :: r, n + 2, v => a :: st2 r (n + 1) v
theorem asl_mem : ∀ (lv : LV) (j i : Nat) (v : Value), lv[i]? = some (some v) → (j + i, v) ∈ asl j lv
  | [], _, _, _, h => by simp at h
  | a :: r, j, 0, v, h => by
    rw [List.getElem?_cons_zero] at h
    cases h
    exact List.mem_cons_self
  | a :: r, j, i + 1, v, h => by
    rw [List.getElem?_cons_succ] at h
    have := asl_mem r (j + 1) i v h
    rw [show j + 1 + i = j + (i + 1) by omega] at this
    cases a with
    | none => exact this
    | some w => exact List.mem_cons_of_mem _ this
theorem asl_inv : ∀ (lv : LV) (j : Nat) (q : Nat × Value), q ∈ asl j lv → ∃ i, q.1 = j + i ∧ lv[i]? = some (some q.2)
  | [], _, _, h => by simp [asl] at h
  | none :: r, j, q, h => by
    obtain ⟨i, h1, h2⟩ := asl_inv r (j + 1) q h
    exact ⟨i + 1, by omega, by rw [List.getElem?_cons_succ]; exact h2⟩
  | some v :: r, j, q, h => by
    rcases List.mem_cons.mp h with rfl | h
    · exact ⟨0, rfl, rfl⟩
    · obtain ⟨i, h1, h2⟩ := asl_inv r (j + 1) q h
      exact ⟨i + 1, by omega, by rw [List.getElem?_cons_succ]; exact h2⟩
theorem dropc_some {a : Option Value} {w : Value} (h : dropc a = some w) : a = some w ∧ w.category = 1 := by
  cases a with
  | none => cases h
  | some x => cases x <;> simp_all [dropc, Value.category] <;> subst h <;> rfl
theorem st1_get : ∀ (lv : LV) (n : Nat) (v : Value) (i : Nat) (w : Value), (st1 lv n v)[i]? = some (some w) → (i = n ∧ w = v) ∨ (i ≠ n ∧ lv[i]? = some (some w) ∧ ¬ (i + 1 = n ∧ w.category = 2))
  | [], _, _, _, _, h => by simp [st1] at h
  | a :: r, 0, v, 0, w, h => by simp [st1] at h; exact Or.inl ⟨rfl, h.symm⟩
  | a :: r, 0, v, i + 1, w, h => by
    simp only [st1, List.getElem?_cons_succ] at h
    exact Or.inr ⟨by omega, by rw [List.getElem?_cons_succ]; exact h, by omega⟩
  | a :: r, 1, v, 0, w, h => by
    simp only [st1, List.getElem?_cons_zero, Option.some.injEq] at h
    obtain ⟨h1, h2⟩ := dropc_some h
    exact Or.inr ⟨by omega, by rw [List.getElem?_cons_zero, h1], by omega⟩
  | a :: r, 1, v, i + 1, w, h => by
    simp only [st1, List.getElem?_cons_succ] at h
    rcases st1_get r 0 v i w h with ⟨h1, h2⟩ | ⟨h1, h2, h3⟩
    · exact Or.inl ⟨by omega, h2⟩
    · exact Or.inr ⟨by omega, by rw [List.getElem?_cons_succ]; exact h2, by omega⟩
  | a :: r, n + 2, v, 0, w, h => by
    simp only [st1, List.getElem?_cons_zero] at h
    exact Or.inr ⟨by omega, by rw [List.getElem?_cons_zero]; exact h, by omega⟩
  | a :: r, n + 2, v, i + 1, w, h => by
    simp only [st1, List.getElem?_cons_succ] at h
    rcases st1_get r (n + 1) v i w h with ⟨h1, h2⟩ | ⟨h1, h2, h3⟩
    · exact Or.inl ⟨by omega, h2⟩
    · exact Or.inr ⟨by omega, by rw [List.getElem?_cons_succ]; exact h2, fun q => h3 ⟨by omega, q.2⟩⟩
theorem st2_get : ∀ (lv : LV) (n : Nat) (v : Value) (i : Nat) (w : Value), (st2 lv n v)[i]? = some (some w) → (i = n ∧ w = v) ∨ (i ≠ n ∧ i ≠ n + 1 ∧ lv[i]? = some (some w) ∧ ¬ (i + 1 = n ∧ w.category = 2))
  | [], _, _, _, _, h => by simp [st2] at h
  | [a], 0, v, 0, w, h => by simp [st2] at h; exact Or.inl ⟨rfl, h.symm⟩
  | [a], 0, v, i + 1, w, h => by simp [st2] at h
  | a :: b :: r, 0, v, 0, w, h => by simp [st2] at h; exact Or.inl ⟨rfl, h.symm⟩
  | a :: b :: r, 0, v, 1, w, h => by simp [st2] at h
  | a :: b :: r, 0, v, i + 2, w, h => by
    simp only [st2, List.getElem?_cons_succ] at h
    exact Or.inr ⟨by omega, by omega, by rw [List.getElem?_cons_succ, List.getElem?_cons_succ]; exact h, by omega⟩
  | a :: r, 1, v, 0, w, h => by
    simp only [st2, List.getElem?_cons_zero, Option.some.injEq] at h
    obtain ⟨h1, h2⟩ := dropc_some h
    exact Or.inr ⟨by omega, by omega, by rw [List.getElem?_cons_zero, h1], by omega⟩
  | a :: r, 1, v, i + 1, w, h => by
    simp only [st2, List.getElem?_cons_succ] at h
    rcases st2_get r 0 v i w h with ⟨h1, h2⟩ | ⟨h1, h0, h2, h3⟩
    · exact Or.inl ⟨by omega, h2⟩
    · exact Or.inr ⟨by omega, by omega, by rw [List.getElem?_cons_succ]; exact h2, by omega⟩
  | a :: r, n + 2, v, 0, w, h => by
    simp only [st2, List.getElem?_cons_zero] at h
    exact Or.inr ⟨by omega, by omega, by rw [List.getElem?_cons_zero]; exact h, by omega⟩
  | a :: r, n + 2, v, i + 1, w, h => by
    simp only [st2, List.getElem?_cons_succ] at h
    rcases st2_get r (n + 1) v i w h with ⟨h1, h2⟩ | ⟨h1, h0, h2, h3⟩
    · exact Or.inl ⟨by omega, h2⟩
    · exact Or.inr ⟨by omega, by omega, by rw [List.getElem?_cons_succ]; exact h2, fun q => h3 ⟨by omega, q.2⟩⟩
theorem lvs_1 {ls : Array Slot} {nL : Nat} {lv : LV} {i : Nat} {v : Value} (h : lv_has ls nL ((i, v) :: (asl 0 lv).filter (fun q => !(q.1 == i) && !(q.1 + 1 == i && q.2.category == 2)))) : lv_has ls nL (asl 0 (st1 lv i v)) := by
  refine ⟨h.1, h.2.1, fun q hq => h.2.2 q ?_⟩
  obtain ⟨j, h1, h2⟩ := asl_inv _ _ _ hq
  rw [Nat.zero_add] at h1
  rcases st1_get _ _ _ _ _ h2 with ⟨h3, h4⟩ | ⟨h3, h4, h5⟩
  · obtain ⟨a, b⟩ := q
    simp only at h1 h4
    subst h1; subst h3; subst h4
    exact List.mem_cons_self
  · refine List.mem_cons_of_mem _ (List.mem_filter.mpr ⟨?_, ?_⟩)
    · have := asl_mem lv 0 j q.2 h4
      rw [Nat.zero_add, ← h1] at this
      exact this
    · simp only [Bool.and_eq_true, Bool.not_eq_true', beq_eq_false_iff_ne, ne_eq, Bool.and_eq_false_iff]
      refine ⟨by omega, ?_⟩
      by_cases hc : q.1 + 1 = i
      · exact Or.inr (fun z => h5 ⟨by omega, z⟩)
      · exact Or.inl hc
theorem lvs_2 {ls : Array Slot} {nL : Nat} {lv : LV} {i : Nat} {v : Value} (h : lv_has ls nL ((i, v) :: (asl 0 lv).filter (fun q => !(q.1 == i) && (!(q.1 == i + 1) && !(q.1 + 1 == i && q.2.category == 2))))) : lv_has ls nL (asl 0 (st2 lv i v)) := by
  refine ⟨h.1, h.2.1, fun q hq => h.2.2 q ?_⟩
  obtain ⟨j, h1, h2⟩ := asl_inv _ _ _ hq
  rw [Nat.zero_add] at h1
  rcases st2_get _ _ _ _ _ h2 with ⟨h3, h4⟩ | ⟨h3, h0, h4, h5⟩
  · obtain ⟨a, b⟩ := q
    simp only at h1 h4
    subst h1; subst h3; subst h4
    exact List.mem_cons_self
  · refine List.mem_cons_of_mem _ (List.mem_filter.mpr ⟨?_, ?_⟩)
    · have := asl_mem lv 0 j q.2 h4
      rw [Nat.zero_add, ← h1] at this
      exact this
    · simp only [Bool.and_eq_true, Bool.not_eq_true', beq_eq_false_iff_ne, ne_eq, Bool.and_eq_false_iff]
      refine ⟨by omega, by omega, ?_⟩
      by_cases hc : q.1 + 1 = i
      · exact Or.inr (fun z => h5 ⟨by omega, z⟩)
      · exact Or.inl hc
theorem lvg {ls : Array Slot} {nL : Nat} {lv : LV} (h : lv_has ls nL (asl 0 lv)) {i : Nat} {v : Value} (hi : lv[i]? = some (some v)) : ls[i]? = some (.val v) := by
  have := asl_mem lv 0 i v hi
  rw [Nat.zero_add] at this
  exact h.2.2 _ this
end
section
/-! ===== the judgement J: the machine stands at pc, with these locals and this stack, over a region with these contents ===== -/
def Cx (p : Program) (s : State) (m : MethodId) (args : Array Value) (meth : Method) (c : Code) (cc : ByteArray) (nL : Nat) (own : String) (G : GT) : Prop :=
  p.tables.exec = Jvm.exec ∧ c.code = cc ∧ c.maxLocals = nL ∧ s.vm.findClass own = some m.cls ∧ (∀ w ∈ tblG, w.before args s = true) ∧ va_K G.1 vwCl (gTys G) s ∧ meth.locks = false ∧ NW s
def J (p : Program) (l : Launch) (e : Env) (R : Room) (s : State) (m : MethodId) (args : Array Value) (below : List Frame) (meth : Method) (c : Code) (Q : State → Prop) (nL : Nat) (G : GT) (rg : RgT) (kc ks : Nat) (I : II) (L : LL) (pc : Nat) (lv : LV) (st : List Value) : Prop :=
  ∀ (H : Heap) (locs : List Loc) (ls : Array Slot), va_P G.1 vwCl (rg_W G rg I L) H → va_S (rg_A G rg) s.heap H locs → lv_has ls nL (asl 0 lv) → W p l e R s m args below meth c H locs kc ks Q (F0 m pc ls st)
section JROWS
variable {p : Program} {l : Launch} {e : Env} {R : Room} {s : State} {m : MethodId} {args : Array Value} {below : List Frame} {meth : Method} {c : Code} {Q : State → Prop} {cc : ByteArray} {nL : Nat} {own : String} {G : GT} {rg : RgT} {kc ks : Nat} {I : II} {L : LL} {pc : Nat} {lv : LV} {st : List Value}
theorem j_iconst (C : Cx p s m args meth c cc nL own G) {n : Int} {v : Int32} (d : decode cc pc = .ok (.iconst n, 1)) (hv : Int32.ofInt n = v) (k : J p l e R s m args below meth c Q nL G rg kc ks I L (pc + 1) lv (.int v :: st)) : J p l e R s m args below meth c Q nL G rg kc ks I L pc lv st := fun H locs ls hP hS hl => lv_iconst C.1 C.2.1 d hv (k H locs ls hP hS hl)
theorem j_bipush (C : Cx p s m args meth c cc nL own G) {n : Int} {v : Int32} (d : decode cc pc = .ok (.bipush n, 2)) (hv : (Int8.ofInt n).toInt32 = v) (k : J p l e R s m args below meth c Q nL G rg kc ks I L (pc + 2) lv (.int v :: st)) : J p l e R s m args below meth c Q nL G rg kc ks I L pc lv st := fun H locs ls hP hS hl => lv_bipush C.1 C.2.1 d hv (k H locs ls hP hS hl)
theorem j_sipush (C : Cx p s m args meth c cc nL own G) {n : Int} {v : Int32} (d : decode cc pc = .ok (.sipush n, 3)) (hv : (Int16.ofInt n).toInt32 = v) (k : J p l e R s m args below meth c Q nL G rg kc ks I L (pc + 3) lv (.int v :: st)) : J p l e R s m args below meth c Q nL G rg kc ks I L pc lv st := fun H locs ls hP hS hl => lv_sipush C.1 C.2.1 d hv (k H locs ls hP hS hl)
theorem j_lconst (C : Cx p s m args meth c cc nL own G) {n : Fin 2} {v : Int64} (d : decode cc pc = .ok (.lconst n, 1)) (hv : Int64.ofNat (n : Nat) = v) (k : J p l e R s m args below meth c Q nL G rg kc ks I L (pc + 1) lv (.long v :: st)) : J p l e R s m args below meth c Q nL G rg kc ks I L pc lv st := fun H locs ls hP hS hl => lv_lconst C.1 C.2.1 d hv (k H locs ls hP hS hl)
theorem j_iload_n (C : Cx p s m args meth c cc nL own G) {n : Fin 4} {i : Nat} {x : Int32} (d : decode cc pc = .ok (.iload_n n, 1)) (hi : (n : Nat) = i) (hv : lv[i]? = some (some (.int x))) (k : J p l e R s m args below meth c Q nL G rg kc ks I L (pc + 1) lv (.int x :: st)) : J p l e R s m args below meth c Q nL G rg kc ks I L pc lv st := fun H locs ls hP hS hl => lv_iload_n C.1 C.2.1 d hi (lvg hl hv) (k H locs ls hP hS hl)
theorem j_iload (C : Cx p s m args meth c cc nL own G) {i : Nat} {x : Int32} (d : decode cc pc = .ok (.iload i, 2)) (hv : lv[i]? = some (some (.int x))) (k : J p l e R s m args below meth c Q nL G rg kc ks I L (pc + 2) lv (.int x :: st)) : J p l e R s m args below meth c Q nL G rg kc ks I L pc lv st := fun H locs ls hP hS hl => lv_iload C.1 C.2.1 d (lvg hl hv) (k H locs ls hP hS hl)
theorem j_istore_n (C : Cx p s m args meth c cc nL own G) {n : Fin 4} {i : Nat} {x : Int32} (d : decode cc pc = .ok (.istore_n n, 1)) (hi : (n : Nat) = i) (hn : i < nL) (k : J p l e R s m args below meth c Q nL G rg kc ks I L (pc + 1) (st1 lv i (.int x)) st) : J p l e R s m args below meth c Q nL G rg kc ks I L pc lv (.int x :: st) := fun H locs ls hP hS hl => lv_istore_n C.1 C.2.1 d hi hl hn rfl (fun ls hl => k H locs ls hP hS (lvs_1 hl))
theorem j_istore (C : Cx p s m args meth c cc nL own G) {i : Nat} {x : Int32} (d : decode cc pc = .ok (.istore i, 2)) (hn : i < nL) (k : J p l e R s m args below meth c Q nL G rg kc ks I L (pc + 2) (st1 lv i (.int x)) st) : J p l e R s m args below meth c Q nL G rg kc ks I L pc lv (.int x :: st) := fun H locs ls hP hS hl => lv_istore C.1 C.2.1 d hl hn rfl (fun ls hl => k H locs ls hP hS (lvs_1 hl))
theorem j_lload_n (C : Cx p s m args meth c cc nL own G) {n : Fin 4} {i : Nat} {x : Int64} (d : decode cc pc = .ok (.lload_n n, 1)) (hi : (n : Nat) = i) (hv : lv[i]? = some (some (.long x))) (k : J p l e R s m args below meth c Q nL G rg kc ks I L (pc + 1) lv (.long x :: st)) : J p l e R s m args below meth c Q nL G rg kc ks I L pc lv st := fun H locs ls hP hS hl => lv_lload_n C.1 C.2.1 d hi (lvg hl hv) (k H locs ls hP hS hl)
theorem j_lload (C : Cx p s m args meth c cc nL own G) {i : Nat} {x : Int64} (d : decode cc pc = .ok (.lload i, 2)) (hv : lv[i]? = some (some (.long x))) (k : J p l e R s m args below meth c Q nL G rg kc ks I L (pc + 2) lv (.long x :: st)) : J p l e R s m args below meth c Q nL G rg kc ks I L pc lv st := fun H locs ls hP hS hl => lv_lload C.1 C.2.1 d (lvg hl hv) (k H locs ls hP hS hl)
theorem j_lstore_n (C : Cx p s m args meth c cc nL own G) {n : Fin 4} {i : Nat} {x : Int64} (d : decode cc pc = .ok (.lstore_n n, 1)) (hi : (n : Nat) = i) (hn : i + 1 < nL) (k : J p l e R s m args below meth c Q nL G rg kc ks I L (pc + 1) (st2 lv i (.long x)) st) : J p l e R s m args below meth c Q nL G rg kc ks I L pc lv (.long x :: st) := fun H locs ls hP hS hl => lv_lstore_n C.1 C.2.1 d hi hl hn rfl (fun ls hl => k H locs ls hP hS (lvs_2 hl))
theorem j_lstore (C : Cx p s m args meth c cc nL own G) {i : Nat} {x : Int64} (d : decode cc pc = .ok (.lstore i, 2)) (hn : i + 1 < nL) (k : J p l e R s m args below meth c Q nL G rg kc ks I L (pc + 2) (st2 lv i (.long x)) st) : J p l e R s m args below meth c Q nL G rg kc ks I L pc lv (.long x :: st) := fun H locs ls hP hS hl => lv_lstore C.1 C.2.1 d hl hn rfl (fun ls hl => k H locs ls hP hS (lvs_2 hl))
theorem j_aload_n (C : Cx p s m args meth c cc nL own G) {n : Fin 4} {i : Nat} {x : Nat} (d : decode cc pc = .ok (.aload_n n, 1)) (hi : (n : Nat) = i) (hv : lv[i]? = some (some (.ref x))) (k : J p l e R s m args below meth c Q nL G rg kc ks I L (pc + 1) lv (.ref x :: st)) : J p l e R s m args below meth c Q nL G rg kc ks I L pc lv st := fun H locs ls hP hS hl => lv_aload_n C.1 C.2.1 d hi (lvg hl hv) (k H locs ls hP hS hl)
theorem j_aload (C : Cx p s m args meth c cc nL own G) {i : Nat} {x : Nat} (d : decode cc pc = .ok (.aload i, 2)) (hv : lv[i]? = some (some (.ref x))) (k : J p l e R s m args below meth c Q nL G rg kc ks I L (pc + 2) lv (.ref x :: st)) : J p l e R s m args below meth c Q nL G rg kc ks I L pc lv st := fun H locs ls hP hS hl => lv_aload C.1 C.2.1 d (lvg hl hv) (k H locs ls hP hS hl)
theorem j_astore_n (C : Cx p s m args meth c cc nL own G) {n : Fin 4} {i : Nat} {x : Nat} (d : decode cc pc = .ok (.astore_n n, 1)) (hi : (n : Nat) = i) (hn : i < nL) (k : J p l e R s m args below meth c Q nL G rg kc ks I L (pc + 1) (st1 lv i (.ref x)) st) : J p l e R s m args below meth c Q nL G rg kc ks I L pc lv (.ref x :: st) := fun H locs ls hP hS hl => lv_astore_n C.1 C.2.1 d hi hl hn rfl (fun ls hl => k H locs ls hP hS (lvs_1 hl))
theorem j_astore (C : Cx p s m args meth c cc nL own G) {i : Nat} {x : Nat} (d : decode cc pc = .ok (.astore i, 2)) (hn : i < nL) (k : J p l e R s m args below meth c Q nL G rg kc ks I L (pc + 2) (st1 lv i (.ref x)) st) : J p l e R s m args below meth c Q nL G rg kc ks I L pc lv (.ref x :: st) := fun H locs ls hP hS hl => lv_astore C.1 C.2.1 d hl hn rfl (fun ls hl => k H locs ls hP hS (lvs_1 hl))
theorem j_dload_n (C : Cx p s m args meth c cc nL own G) {n : Fin 4} {i : Nat} {x : UInt64} (d : decode cc pc = .ok (.dload_n n, 1)) (hi : (n : Nat) = i) (hv : lv[i]? = some (some (.double x))) (k : J p l e R s m args below meth c Q nL G rg kc ks I L (pc + 1) lv (.double x :: st)) : J p l e R s m args below meth c Q nL G rg kc ks I L pc lv st := fun H locs ls hP hS hl => lv_dload_n C.1 C.2.1 d hi (lvg hl hv) (k H locs ls hP hS hl)
theorem j_dload (C : Cx p s m args meth c cc nL own G) {i : Nat} {x : UInt64} (d : decode cc pc = .ok (.dload i, 2)) (hv : lv[i]? = some (some (.double x))) (k : J p l e R s m args below meth c Q nL G rg kc ks I L (pc + 2) lv (.double x :: st)) : J p l e R s m args below meth c Q nL G rg kc ks I L pc lv st := fun H locs ls hP hS hl => lv_dload C.1 C.2.1 d (lvg hl hv) (k H locs ls hP hS hl)
theorem j_dstore_n (C : Cx p s m args meth c cc nL own G) {n : Fin 4} {i : Nat} {x : UInt64} (d : decode cc pc = .ok (.dstore_n n, 1)) (hi : (n : Nat) = i) (hn : i + 1 < nL) (k : J p l e R s m args below meth c Q nL G rg kc ks I L (pc + 1) (st2 lv i (.double x)) st) : J p l e R s m args below meth c Q nL G rg kc ks I L pc lv (.double x :: st) := fun H locs ls hP hS hl => lv_dstore_n C.1 C.2.1 d hi hl hn rfl (fun ls hl => k H locs ls hP hS (lvs_2 hl))
theorem j_dstore (C : Cx p s m args meth c cc nL own G) {i : Nat} {x : UInt64} (d : decode cc pc = .ok (.dstore i, 2)) (hn : i + 1 < nL) (k : J p l e R s m args below meth c Q nL G rg kc ks I L (pc + 2) (st2 lv i (.double x)) st) : J p l e R s m args below meth c Q nL G rg kc ks I L pc lv (.double x :: st) := fun H locs ls hP hS hl => lv_dstore C.1 C.2.1 d hl hn rfl (fun ls hl => k H locs ls hP hS (lvs_2 hl))
theorem j_iinc (C : Cx p s m args meth c cc nL own G) {i : Nat} {n : Int} {x v : Int32} (d : decode cc pc = .ok (.iinc i n, 3)) (hi : lv[i]? = some (some (.int x))) (hv : x + Int32.ofInt n = v) (hn : i < nL) (k : J p l e R s m args below meth c Q nL G rg kc ks I L (pc + 3) (st1 lv i (.int v)) st) : J p l e R s m args below meth c Q nL G rg kc ks I L pc lv st := by
  intro H locs ls hP hS hl
  have hm := asl_mem lv 0 i _ hi
  rw [Nat.zero_add] at hm
  obtain ⟨q, hq⟩ := List.getElem?_of_mem hm
  exact lv_iinc C.1 C.2.1 d hl hq hv hn rfl (fun ls hl => k H locs ls hP hS (lvs_1 hl))
theorem j_iadd (C : Cx p s m args meth c cc nL own G) {x y : Int32} (d : decode cc pc = .ok (.iadd, 1))  (k : J p l e R s m args below meth c Q nL G rg kc ks I L (pc + 1) lv (.int (x + y) :: st)) : J p l e R s m args below meth c Q nL G rg kc ks I L pc lv (.int y :: .int x :: st) := fun H locs ls hP hS hl => lv_iadd C.1 C.2.1 d  (k H locs ls hP hS hl)
theorem j_isub (C : Cx p s m args meth c cc nL own G) {x y : Int32} (d : decode cc pc = .ok (.isub, 1))  (k : J p l e R s m args below meth c Q nL G rg kc ks I L (pc + 1) lv (.int (x - y) :: st)) : J p l e R s m args below meth c Q nL G rg kc ks I L pc lv (.int y :: .int x :: st) := fun H locs ls hP hS hl => lv_isub C.1 C.2.1 d  (k H locs ls hP hS hl)
theorem j_imul (C : Cx p s m args meth c cc nL own G) {x y : Int32} (d : decode cc pc = .ok (.imul, 1))  (k : J p l e R s m args below meth c Q nL G rg kc ks I L (pc + 1) lv (.int (x * y) :: st)) : J p l e R s m args below meth c Q nL G rg kc ks I L pc lv (.int y :: .int x :: st) := fun H locs ls hP hS hl => lv_imul C.1 C.2.1 d  (k H locs ls hP hS hl)
theorem j_iand (C : Cx p s m args meth c cc nL own G) {x y : Int32} (d : decode cc pc = .ok (.iand, 1))  (k : J p l e R s m args below meth c Q nL G rg kc ks I L (pc + 1) lv (.int (x &&& y) :: st)) : J p l e R s m args below meth c Q nL G rg kc ks I L pc lv (.int y :: .int x :: st) := fun H locs ls hP hS hl => lv_iand C.1 C.2.1 d  (k H locs ls hP hS hl)
theorem j_ior (C : Cx p s m args meth c cc nL own G) {x y : Int32} (d : decode cc pc = .ok (.ior, 1))  (k : J p l e R s m args below meth c Q nL G rg kc ks I L (pc + 1) lv (.int (x ||| y) :: st)) : J p l e R s m args below meth c Q nL G rg kc ks I L pc lv (.int y :: .int x :: st) := fun H locs ls hP hS hl => lv_ior C.1 C.2.1 d  (k H locs ls hP hS hl)
theorem j_ladd (C : Cx p s m args meth c cc nL own G) {x y : Int64} (d : decode cc pc = .ok (.ladd, 1))  (k : J p l e R s m args below meth c Q nL G rg kc ks I L (pc + 1) lv (.long (x + y) :: st)) : J p l e R s m args below meth c Q nL G rg kc ks I L pc lv (.long y :: .long x :: st) := fun H locs ls hP hS hl => lv_ladd C.1 C.2.1 d  (k H locs ls hP hS hl)
theorem j_lsub (C : Cx p s m args meth c cc nL own G) {x y : Int64} (d : decode cc pc = .ok (.lsub, 1))  (k : J p l e R s m args below meth c Q nL G rg kc ks I L (pc + 1) lv (.long (x - y) :: st)) : J p l e R s m args below meth c Q nL G rg kc ks I L pc lv (.long y :: .long x :: st) := fun H locs ls hP hS hl => lv_lsub C.1 C.2.1 d  (k H locs ls hP hS hl)
theorem j_lmul (C : Cx p s m args meth c cc nL own G) {x y : Int64} (d : decode cc pc = .ok (.lmul, 1))  (k : J p l e R s m args below meth c Q nL G rg kc ks I L (pc + 1) lv (.long (x * y) :: st)) : J p l e R s m args below meth c Q nL G rg kc ks I L pc lv (.long y :: .long x :: st) := fun H locs ls hP hS hl => lv_lmul C.1 C.2.1 d  (k H locs ls hP hS hl)
theorem j_land (C : Cx p s m args meth c cc nL own G) {x y : Int64} (d : decode cc pc = .ok (.land, 1))  (k : J p l e R s m args below meth c Q nL G rg kc ks I L (pc + 1) lv (.long (x &&& y) :: st)) : J p l e R s m args below meth c Q nL G rg kc ks I L pc lv (.long y :: .long x :: st) := fun H locs ls hP hS hl => lv_land C.1 C.2.1 d  (k H locs ls hP hS hl)
theorem j_lor (C : Cx p s m args meth c cc nL own G) {x y : Int64} (d : decode cc pc = .ok (.lor, 1))  (k : J p l e R s m args below meth c Q nL G rg kc ks I L (pc + 1) lv (.long (x ||| y) :: st)) : J p l e R s m args below meth c Q nL G rg kc ks I L pc lv (.long y :: .long x :: st) := fun H locs ls hP hS hl => lv_lor C.1 C.2.1 d  (k H locs ls hP hS hl)
theorem j_lxor (C : Cx p s m args meth c cc nL own G) {x y : Int64} (d : decode cc pc = .ok (.lxor, 1))  (k : J p l e R s m args below meth c Q nL G rg kc ks I L (pc + 1) lv (.long (x ^^^ y) :: st)) : J p l e R s m args below meth c Q nL G rg kc ks I L pc lv (.long y :: .long x :: st) := fun H locs ls hP hS hl => lv_lxor C.1 C.2.1 d  (k H locs ls hP hS hl)
theorem j_idiv (C : Cx p s m args meth c cc nL own G) {x y : Int32} (d : decode cc pc = .ok (.idiv, 1)) (hne : ¬ y = 0) (k : J p l e R s m args below meth c Q nL G rg kc ks I L (pc + 1) lv (.int (x / y) :: st)) : J p l e R s m args below meth c Q nL G rg kc ks I L pc lv (.int y :: .int x :: st) := fun H locs ls hP hS hl => lv_idiv C.1 C.2.1 d hne (k H locs ls hP hS hl)
theorem j_irem (C : Cx p s m args meth c cc nL own G) {x y : Int32} (d : decode cc pc = .ok (.irem, 1)) (hne : ¬ y = 0) (k : J p l e R s m args below meth c Q nL G rg kc ks I L (pc + 1) lv (.int (x - x / y * y) :: st)) : J p l e R s m args below meth c Q nL G rg kc ks I L pc lv (.int y :: .int x :: st) := fun H locs ls hP hS hl => lv_irem C.1 C.2.1 d hne (k H locs ls hP hS hl)
theorem j_ldiv (C : Cx p s m args meth c cc nL own G) {x y : Int64} (d : decode cc pc = .ok (.ldiv, 1)) (hne : ¬ y = 0) (k : J p l e R s m args below meth c Q nL G rg kc ks I L (pc + 1) lv (.long (x / y) :: st)) : J p l e R s m args below meth c Q nL G rg kc ks I L pc lv (.long y :: .long x :: st) := fun H locs ls hP hS hl => lv_ldiv C.1 C.2.1 d hne (k H locs ls hP hS hl)
theorem j_lrem (C : Cx p s m args meth c cc nL own G) {x y : Int64} (d : decode cc pc = .ok (.lrem, 1)) (hne : ¬ y = 0) (k : J p l e R s m args below meth c Q nL G rg kc ks I L (pc + 1) lv (.long (x - x / y * y) :: st)) : J p l e R s m args below meth c Q nL G rg kc ks I L pc lv (.long y :: .long x :: st) := fun H locs ls hP hS hl => lv_lrem C.1 C.2.1 d hne (k H locs ls hP hS hl)
theorem j_lneg (C : Cx p s m args meth c cc nL own G) {x : Int64} (d : decode cc pc = .ok (.lneg, 1))  (k : J p l e R s m args below meth c Q nL G rg kc ks I L (pc + 1) lv (.long (-x) :: st)) : J p l e R s m args below meth c Q nL G rg kc ks I L pc lv (.long x :: st) := fun H locs ls hP hS hl => lv_lneg C.1 C.2.1 d  (k H locs ls hP hS hl)
theorem j_ishl (C : Cx p s m args meth c cc nL own G) {x y : Int32} (d : decode cc pc = .ok (.ishl, 1))  (k : J p l e R s m args below meth c Q nL G rg kc ks I L (pc + 1) lv (.int (x <<< (y &&& 31)) :: st)) : J p l e R s m args below meth c Q nL G rg kc ks I L pc lv (.int y :: .int x :: st) := fun H locs ls hP hS hl => lv_ishl C.1 C.2.1 d  (k H locs ls hP hS hl)
theorem j_ishr (C : Cx p s m args meth c cc nL own G) {x y : Int32} (d : decode cc pc = .ok (.ishr, 1))  (k : J p l e R s m args below meth c Q nL G rg kc ks I L (pc + 1) lv (.int (x >>> (y &&& 31)) :: st)) : J p l e R s m args below meth c Q nL G rg kc ks I L pc lv (.int y :: .int x :: st) := fun H locs ls hP hS hl => lv_ishr C.1 C.2.1 d  (k H locs ls hP hS hl)
theorem j_lshl (C : Cx p s m args meth c cc nL own G) {x : Int64} {y : Int32} (d : decode cc pc = .ok (.lshl, 1))  (k : J p l e R s m args below meth c Q nL G rg kc ks I L (pc + 1) lv (.long (x <<< (y.toInt64 &&& 63)) :: st)) : J p l e R s m args below meth c Q nL G rg kc ks I L pc lv (.int y :: .long x :: st) := fun H locs ls hP hS hl => lv_lshl C.1 C.2.1 d rfl (k H locs ls hP hS hl)
theorem j_i2l (C : Cx p s m args meth c cc nL own G) {x : Int32} (d : decode cc pc = .ok (.i2l, 1))  (k : J p l e R s m args below meth c Q nL G rg kc ks I L (pc + 1) lv (.long x.toInt64 :: st)) : J p l e R s m args below meth c Q nL G rg kc ks I L pc lv (.int x :: st) := fun H locs ls hP hS hl => lv_i2l C.1 C.2.1 d rfl (k H locs ls hP hS hl)
theorem j_dup (C : Cx p s m args meth c cc nL own G) {va : Value} (d : decode cc pc = .ok (.dup, 1)) (hva : va.category = 1) (k : J p l e R s m args below meth c Q nL G rg kc ks I L (pc + 1) lv (va :: va :: st)) : J p l e R s m args below meth c Q nL G rg kc ks I L pc lv (va :: st) := fun H locs ls hP hS hl => lv_dup C.1 C.2.1 d hva (k H locs ls hP hS hl)
theorem j_pop (C : Cx p s m args meth c cc nL own G) {va : Value} (d : decode cc pc = .ok (.pop, 1)) (hva : va.category = 1) (k : J p l e R s m args below meth c Q nL G rg kc ks I L (pc + 1) lv st) : J p l e R s m args below meth c Q nL G rg kc ks I L pc lv (va :: st) := fun H locs ls hP hS hl => lv_pop C.1 C.2.1 d hva (k H locs ls hP hS hl)
theorem j_dup2 (C : Cx p s m args meth c cc nL own G) {va vb : Value} (d : decode cc pc = .ok (.dup2, 1)) (hva : va.category = 1) (hvb : vb.category = 1) (k : J p l e R s m args below meth c Q nL G rg kc ks I L (pc + 1) lv (va :: vb :: va :: vb :: st)) : J p l e R s m args below meth c Q nL G rg kc ks I L pc lv (va :: vb :: st) := fun H locs ls hP hS hl => lv_dup2_11 C.1 C.2.1 d hva hvb (k H locs ls hP hS hl)
theorem j_l2d (C : Cx p s m args meth c cc nL own G) {x : Int64} (d : decode cc pc = .ok (.l2d, 1))  (k : J p l e R s m args below meth c Q nL G rg kc ks I L (pc + 1) lv (.double (FP.l2d x) :: st)) : J p l e R s m args below meth c Q nL G rg kc ks I L pc lv (.long x :: st) := fun H locs ls hP hS hl => lv_l2d C.1 C.2.1 d  (k H locs ls hP hS hl)
theorem j_dneg (C : Cx p s m args meth c cc nL own G) {x : UInt64} (d : decode cc pc = .ok (.dneg, 1))  (k : J p l e R s m args below meth c Q nL G rg kc ks I L (pc + 1) lv (.double (FP.dneg x) :: st)) : J p l e R s m args below meth c Q nL G rg kc ks I L pc lv (.double x :: st) := fun H locs ls hP hS hl => lv_dneg C.1 C.2.1 d  (k H locs ls hP hS hl)
theorem j_d2l (C : Cx p s m args meth c cc nL own G) {x : UInt64} (d : decode cc pc = .ok (.d2l, 1))  (k : J p l e R s m args below meth c Q nL G rg kc ks I L (pc + 1) lv (.long (FP.d2l x) :: st)) : J p l e R s m args below meth c Q nL G rg kc ks I L pc lv (.double x :: st) := fun H locs ls hP hS hl => lv_d2l C.1 C.2.1 d  (k H locs ls hP hS hl)
theorem j_ddiv (C : Cx p s m args meth c cc nL own G) {x y : UInt64} (d : decode cc pc = .ok (.ddiv, 1)) (hne : vf_n64 (FP.ddiv x y)) (k : J p l e R s m args below meth c Q nL G rg kc ks I L (pc + 1) lv (.double (FP.ddiv x y) :: st)) : J p l e R s m args below meth c Q nL G rg kc ks I L pc lv (.double y :: .double x :: st) := fun H locs ls hP hS hl => lv_ddiv C.1 C.2.1 d hne (k H locs ls hP hS hl)
theorem j_dmul (C : Cx p s m args meth c cc nL own G) {x y : UInt64} (d : decode cc pc = .ok (.dmul, 1)) (hne : vf_n64 (FP.dmul x y)) (k : J p l e R s m args below meth c Q nL G rg kc ks I L (pc + 1) lv (.double (FP.dmul x y) :: st)) : J p l e R s m args below meth c Q nL G rg kc ks I L pc lv (.double y :: .double x :: st) := fun H locs ls hP hS hl => lv_dmul C.1 C.2.1 d hne (k H locs ls hP hS hl)
theorem j_dcmp (C : Cx p s m args meth c cc nL own G) {x y : UInt64} {op : CmpOp} (d : decode cc pc = .ok (.dcmp op, 1))  (k : J p l e R s m args below meth c Q nL G rg kc ks I L (pc + 1) lv (.int (Op.cmpValue (FP.dcmp x y) op) :: st)) : J p l e R s m args below meth c Q nL G rg kc ks I L pc lv (.double y :: .double x :: st) := fun H locs ls hP hS hl => lv_dcmp C.1 C.2.1 d  (k H locs ls hP hS hl)
theorem j_lcmp (C : Cx p s m args meth c cc nL own G) {x y : Int64} (d : decode cc pc = .ok (.lcmp, 1))  (k : J p l e R s m args below meth c Q nL G rg kc ks I L (pc + 1) lv (.int (lg_cmp x y) :: st)) : J p l e R s m args below meth c Q nL G rg kc ks I L pc lv (.long y :: .long x :: st) := fun H locs ls hP hS hl => W.lcmp C.1 C.2.1 d  (k H locs ls hP hS hl)
theorem j_if_eq (C : Cx p s m args meth c cc nL own G) {x : Int32} {off : Int} {tgt : Nat} (d : decode cc pc = .ok (.ifCond .eq off, 3)) (ht : (pc : Int) + off = (tgt : Int)) (kt : x = 0 → J p l e R s m args below meth c Q nL G rg kc ks I L tgt lv st) (kf : ¬ x = 0 → J p l e R s m args below meth c Q nL G rg kc ks I L (pc + 3) lv st) : J p l e R s m args below meth c Q nL G rg kc ks I L pc lv (.int x :: st) := fun H locs ls hP hS hl => lv_if_eq C.1 C.2.1 d ht (fun h => kt h H locs ls hP hS hl) (fun h => kf h H locs ls hP hS hl)
theorem j_icmp_eq (C : Cx p s m args meth c cc nL own G) {x y : Int32} {off : Int} {tgt : Nat} (d : decode cc pc = .ok (.if_icmp .eq off, 3)) (ht : (pc : Int) + off = (tgt : Int)) (kt : x = y → J p l e R s m args below meth c Q nL G rg kc ks I L tgt lv st) (kf : ¬ x = y → J p l e R s m args below meth c Q nL G rg kc ks I L (pc + 3) lv st) : J p l e R s m args below meth c Q nL G rg kc ks I L pc lv (.int y :: .int x :: st) := fun H locs ls hP hS hl => lv_icmp_eq C.1 C.2.1 d ht (fun h => kt h H locs ls hP hS hl) (fun h => kf h H locs ls hP hS hl)
theorem j_if_ne (C : Cx p s m args meth c cc nL own G) {x : Int32} {off : Int} {tgt : Nat} (d : decode cc pc = .ok (.ifCond .ne off, 3)) (ht : (pc : Int) + off = (tgt : Int)) (kt : ¬ x = 0 → J p l e R s m args below meth c Q nL G rg kc ks I L tgt lv st) (kf : x = 0 → J p l e R s m args below meth c Q nL G rg kc ks I L (pc + 3) lv st) : J p l e R s m args below meth c Q nL G rg kc ks I L pc lv (.int x :: st) := fun H locs ls hP hS hl => lv_if_ne C.1 C.2.1 d ht (fun h => kt h H locs ls hP hS hl) (fun h => kf h H locs ls hP hS hl)
theorem j_icmp_ne (C : Cx p s m args meth c cc nL own G) {x y : Int32} {off : Int} {tgt : Nat} (d : decode cc pc = .ok (.if_icmp .ne off, 3)) (ht : (pc : Int) + off = (tgt : Int)) (kt : ¬ x = y → J p l e R s m args below meth c Q nL G rg kc ks I L tgt lv st) (kf : x = y → J p l e R s m args below meth c Q nL G rg kc ks I L (pc + 3) lv st) : J p l e R s m args below meth c Q nL G rg kc ks I L pc lv (.int y :: .int x :: st) := fun H locs ls hP hS hl => lv_icmp_ne C.1 C.2.1 d ht (fun h => kt h H locs ls hP hS hl) (fun h => kf h H locs ls hP hS hl)
theorem j_if_lt (C : Cx p s m args meth c cc nL own G) {x : Int32} {off : Int} {tgt : Nat} (d : decode cc pc = .ok (.ifCond .lt off, 3)) (ht : (pc : Int) + off = (tgt : Int)) (kt : x < 0 → J p l e R s m args below meth c Q nL G rg kc ks I L tgt lv st) (kf : ¬ x < 0 → J p l e R s m args below meth c Q nL G rg kc ks I L (pc + 3) lv st) : J p l e R s m args below meth c Q nL G rg kc ks I L pc lv (.int x :: st) := fun H locs ls hP hS hl => lv_if_lt C.1 C.2.1 d ht (fun h => kt h H locs ls hP hS hl) (fun h => kf h H locs ls hP hS hl)
theorem j_icmp_lt (C : Cx p s m args meth c cc nL own G) {x y : Int32} {off : Int} {tgt : Nat} (d : decode cc pc = .ok (.if_icmp .lt off, 3)) (ht : (pc : Int) + off = (tgt : Int)) (kt : x < y → J p l e R s m args below meth c Q nL G rg kc ks I L tgt lv st) (kf : ¬ x < y → J p l e R s m args below meth c Q nL G rg kc ks I L (pc + 3) lv st) : J p l e R s m args below meth c Q nL G rg kc ks I L pc lv (.int y :: .int x :: st) := fun H locs ls hP hS hl => lv_icmp_lt C.1 C.2.1 d ht (fun h => kt h H locs ls hP hS hl) (fun h => kf h H locs ls hP hS hl)
theorem j_if_ge (C : Cx p s m args meth c cc nL own G) {x : Int32} {off : Int} {tgt : Nat} (d : decode cc pc = .ok (.ifCond .ge off, 3)) (ht : (pc : Int) + off = (tgt : Int)) (kt : 0 ≤ x → J p l e R s m args below meth c Q nL G rg kc ks I L tgt lv st) (kf : ¬ 0 ≤ x → J p l e R s m args below meth c Q nL G rg kc ks I L (pc + 3) lv st) : J p l e R s m args below meth c Q nL G rg kc ks I L pc lv (.int x :: st) := fun H locs ls hP hS hl => lv_if_ge C.1 C.2.1 d ht (fun h => kt h H locs ls hP hS hl) (fun h => kf h H locs ls hP hS hl)
theorem j_icmp_ge (C : Cx p s m args meth c cc nL own G) {x y : Int32} {off : Int} {tgt : Nat} (d : decode cc pc = .ok (.if_icmp .ge off, 3)) (ht : (pc : Int) + off = (tgt : Int)) (kt : y ≤ x → J p l e R s m args below meth c Q nL G rg kc ks I L tgt lv st) (kf : ¬ y ≤ x → J p l e R s m args below meth c Q nL G rg kc ks I L (pc + 3) lv st) : J p l e R s m args below meth c Q nL G rg kc ks I L pc lv (.int y :: .int x :: st) := fun H locs ls hP hS hl => lv_icmp_ge C.1 C.2.1 d ht (fun h => kt h H locs ls hP hS hl) (fun h => kf h H locs ls hP hS hl)
theorem j_if_gt (C : Cx p s m args meth c cc nL own G) {x : Int32} {off : Int} {tgt : Nat} (d : decode cc pc = .ok (.ifCond .gt off, 3)) (ht : (pc : Int) + off = (tgt : Int)) (kt : 0 < x → J p l e R s m args below meth c Q nL G rg kc ks I L tgt lv st) (kf : ¬ 0 < x → J p l e R s m args below meth c Q nL G rg kc ks I L (pc + 3) lv st) : J p l e R s m args below meth c Q nL G rg kc ks I L pc lv (.int x :: st) := fun H locs ls hP hS hl => lv_if_gt C.1 C.2.1 d ht (fun h => kt h H locs ls hP hS hl) (fun h => kf h H locs ls hP hS hl)
theorem j_icmp_gt (C : Cx p s m args meth c cc nL own G) {x y : Int32} {off : Int} {tgt : Nat} (d : decode cc pc = .ok (.if_icmp .gt off, 3)) (ht : (pc : Int) + off = (tgt : Int)) (kt : y < x → J p l e R s m args below meth c Q nL G rg kc ks I L tgt lv st) (kf : ¬ y < x → J p l e R s m args below meth c Q nL G rg kc ks I L (pc + 3) lv st) : J p l e R s m args below meth c Q nL G rg kc ks I L pc lv (.int y :: .int x :: st) := fun H locs ls hP hS hl => lv_icmp_gt C.1 C.2.1 d ht (fun h => kt h H locs ls hP hS hl) (fun h => kf h H locs ls hP hS hl)
theorem j_if_le (C : Cx p s m args meth c cc nL own G) {x : Int32} {off : Int} {tgt : Nat} (d : decode cc pc = .ok (.ifCond .le off, 3)) (ht : (pc : Int) + off = (tgt : Int)) (kt : x ≤ 0 → J p l e R s m args below meth c Q nL G rg kc ks I L tgt lv st) (kf : ¬ x ≤ 0 → J p l e R s m args below meth c Q nL G rg kc ks I L (pc + 3) lv st) : J p l e R s m args below meth c Q nL G rg kc ks I L pc lv (.int x :: st) := fun H locs ls hP hS hl => lv_if_le C.1 C.2.1 d ht (fun h => kt h H locs ls hP hS hl) (fun h => kf h H locs ls hP hS hl)
theorem j_icmp_le (C : Cx p s m args meth c cc nL own G) {x y : Int32} {off : Int} {tgt : Nat} (d : decode cc pc = .ok (.if_icmp .le off, 3)) (ht : (pc : Int) + off = (tgt : Int)) (kt : x ≤ y → J p l e R s m args below meth c Q nL G rg kc ks I L tgt lv st) (kf : ¬ x ≤ y → J p l e R s m args below meth c Q nL G rg kc ks I L (pc + 3) lv st) : J p l e R s m args below meth c Q nL G rg kc ks I L pc lv (.int y :: .int x :: st) := fun H locs ls hP hS hl => lv_icmp_le C.1 C.2.1 d ht (fun h => kt h H locs ls hP hS hl) (fun h => kf h H locs ls hP hS hl)
theorem j_goto (C : Cx p s m args meth c cc nL own G) {off : Int} {tgt : Nat} (d : decode cc pc = .ok (.goto off, 3)) (ht : (pc : Int) + off = (tgt : Int)) (k : J p l e R s m args below meth c Q nL G rg kc ks I L tgt lv st) : J p l e R s m args below meth c Q nL G rg kc ks I L pc lv st := fun H locs ls hP hS hl => lv_goto C.1 C.2.1 d ht (k H locs ls hP hS hl)
theorem lc_lt (x y : Int64) : lg_cmp x y < 0 ↔ x < y := by
  unfold lg_cmp
  simp only [gt_iff_lt, Int64.lt_iff_toInt_lt, Int64.le_iff_toInt_le, ← Int64.toInt_inj]
  by_cases h1 : y.toInt < x.toInt
  · rw [if_pos h1]
    exact ⟨fun h => by first | exact absurd h (by decide) | omega, fun h => by first | decide | omega⟩
  · rw [if_neg h1]
    by_cases h2 : x.toInt = y.toInt
    · rw [if_pos h2]
      exact ⟨fun h => by first | exact absurd h (by decide) | omega, fun h => by first | decide | omega⟩
    · rw [if_neg h2]
      exact ⟨fun h => by first | exact absurd h (by decide) | omega, fun h => by first | decide | omega⟩
theorem lc_ge (x y : Int64) : 0 ≤ lg_cmp x y ↔ y ≤ x := by
  unfold lg_cmp
  simp only [gt_iff_lt, Int64.lt_iff_toInt_lt, Int64.le_iff_toInt_le, ← Int64.toInt_inj]
  by_cases h1 : y.toInt < x.toInt
  · rw [if_pos h1]
    exact ⟨fun h => by first | exact absurd h (by decide) | omega, fun h => by first | decide | omega⟩
  · rw [if_neg h1]
    by_cases h2 : x.toInt = y.toInt
    · rw [if_pos h2]
      exact ⟨fun h => by first | exact absurd h (by decide) | omega, fun h => by first | decide | omega⟩
    · rw [if_neg h2]
      exact ⟨fun h => by first | exact absurd h (by decide) | omega, fun h => by first | decide | omega⟩
theorem lc_gt (x y : Int64) : 0 < lg_cmp x y ↔ y < x := by
  unfold lg_cmp
  simp only [gt_iff_lt, Int64.lt_iff_toInt_lt, Int64.le_iff_toInt_le, ← Int64.toInt_inj]
  by_cases h1 : y.toInt < x.toInt
  · rw [if_pos h1]
    exact ⟨fun h => by first | exact absurd h (by decide) | omega, fun h => by first | decide | omega⟩
  · rw [if_neg h1]
    by_cases h2 : x.toInt = y.toInt
    · rw [if_pos h2]
      exact ⟨fun h => by first | exact absurd h (by decide) | omega, fun h => by first | decide | omega⟩
    · rw [if_neg h2]
      exact ⟨fun h => by first | exact absurd h (by decide) | omega, fun h => by first | decide | omega⟩
theorem lc_le (x y : Int64) : lg_cmp x y ≤ 0 ↔ x ≤ y := by
  unfold lg_cmp
  simp only [gt_iff_lt, Int64.lt_iff_toInt_lt, Int64.le_iff_toInt_le, ← Int64.toInt_inj]
  by_cases h1 : y.toInt < x.toInt
  · rw [if_pos h1]
    exact ⟨fun h => by first | exact absurd h (by decide) | omega, fun h => by first | decide | omega⟩
  · rw [if_neg h1]
    by_cases h2 : x.toInt = y.toInt
    · rw [if_pos h2]
      exact ⟨fun h => by first | exact absurd h (by decide) | omega, fun h => by first | decide | omega⟩
    · rw [if_neg h2]
      exact ⟨fun h => by first | exact absurd h (by decide) | omega, fun h => by first | decide | omega⟩
theorem lc_eq (x y : Int64) : lg_cmp x y = 0 ↔ x = y := by
  unfold lg_cmp
  simp only [gt_iff_lt, Int64.lt_iff_toInt_lt, Int64.le_iff_toInt_le, ← Int64.toInt_inj]
  by_cases h1 : y.toInt < x.toInt
  · rw [if_pos h1]
    exact ⟨fun h => by first | exact absurd h (by decide) | omega, fun h => by first | decide | omega⟩
  · rw [if_neg h1]
    by_cases h2 : x.toInt = y.toInt
    · rw [if_pos h2]
      exact ⟨fun h => by first | exact absurd h (by decide) | omega, fun h => by first | decide | omega⟩
    · rw [if_neg h2]
      exact ⟨fun h => by first | exact absurd h (by decide) | omega, fun h => by first | decide | omega⟩
theorem j_lc_eq (C : Cx p s m args meth c cc nL own G) {x y : Int64} {off : Int} {tgt : Nat} (d0 : decode cc pc = .ok (.lcmp, 1)) (d : decode cc (pc + 1) = .ok (.ifCond .eq off, 3)) (ht : ((pc + 1 : Nat) : Int) + off = (tgt : Int)) (kt : x = y → J p l e R s m args below meth c Q nL G rg kc ks I L tgt lv st) (kf : ¬ x = y → J p l e R s m args below meth c Q nL G rg kc ks I L (pc + 1 + 3) lv st) : J p l e R s m args below meth c Q nL G rg kc ks I L pc lv (.long y :: .long x :: st) := j_lcmp C d0 (j_if_eq C d ht (fun h => kt ((lc_eq x y).mp h)) (fun h => kf (fun q => h ((lc_eq x y).mpr q))))
theorem j_lc_ne (C : Cx p s m args meth c cc nL own G) {x y : Int64} {off : Int} {tgt : Nat} (d0 : decode cc pc = .ok (.lcmp, 1)) (d : decode cc (pc + 1) = .ok (.ifCond .ne off, 3)) (ht : ((pc + 1 : Nat) : Int) + off = (tgt : Int)) (kt : ¬ x = y → J p l e R s m args below meth c Q nL G rg kc ks I L tgt lv st) (kf : x = y → J p l e R s m args below meth c Q nL G rg kc ks I L (pc + 1 + 3) lv st) : J p l e R s m args below meth c Q nL G rg kc ks I L pc lv (.long y :: .long x :: st) := j_lcmp C d0 (j_if_ne C d ht (fun h => kt (fun q => h ((lc_eq x y).mpr q))) (fun h => kf ((lc_eq x y).mp h)))
theorem j_lc_lt (C : Cx p s m args meth c cc nL own G) {x y : Int64} {off : Int} {tgt : Nat} (d0 : decode cc pc = .ok (.lcmp, 1)) (d : decode cc (pc + 1) = .ok (.ifCond .lt off, 3)) (ht : ((pc + 1 : Nat) : Int) + off = (tgt : Int)) (kt : x < y → J p l e R s m args below meth c Q nL G rg kc ks I L tgt lv st) (kf : ¬ x < y → J p l e R s m args below meth c Q nL G rg kc ks I L (pc + 1 + 3) lv st) : J p l e R s m args below meth c Q nL G rg kc ks I L pc lv (.long y :: .long x :: st) := j_lcmp C d0 (j_if_lt C d ht (fun h => kt ((lc_lt x y).mp h)) (fun h => kf (fun q => h ((lc_lt x y).mpr q))))
theorem j_lc_ge (C : Cx p s m args meth c cc nL own G) {x y : Int64} {off : Int} {tgt : Nat} (d0 : decode cc pc = .ok (.lcmp, 1)) (d : decode cc (pc + 1) = .ok (.ifCond .ge off, 3)) (ht : ((pc + 1 : Nat) : Int) + off = (tgt : Int)) (kt : y ≤ x → J p l e R s m args below meth c Q nL G rg kc ks I L tgt lv st) (kf : ¬ y ≤ x → J p l e R s m args below meth c Q nL G rg kc ks I L (pc + 1 + 3) lv st) : J p l e R s m args below meth c Q nL G rg kc ks I L pc lv (.long y :: .long x :: st) := j_lcmp C d0 (j_if_ge C d ht (fun h => kt ((lc_ge x y).mp h)) (fun h => kf (fun q => h ((lc_ge x y).mpr q))))
theorem j_lc_gt (C : Cx p s m args meth c cc nL own G) {x y : Int64} {off : Int} {tgt : Nat} (d0 : decode cc pc = .ok (.lcmp, 1)) (d : decode cc (pc + 1) = .ok (.ifCond .gt off, 3)) (ht : ((pc + 1 : Nat) : Int) + off = (tgt : Int)) (kt : y < x → J p l e R s m args below meth c Q nL G rg kc ks I L tgt lv st) (kf : ¬ y < x → J p l e R s m args below meth c Q nL G rg kc ks I L (pc + 1 + 3) lv st) : J p l e R s m args below meth c Q nL G rg kc ks I L pc lv (.long y :: .long x :: st) := j_lcmp C d0 (j_if_gt C d ht (fun h => kt ((lc_gt x y).mp h)) (fun h => kf (fun q => h ((lc_gt x y).mpr q))))
theorem j_lc_le (C : Cx p s m args meth c cc nL own G) {x y : Int64} {off : Int} {tgt : Nat} (d0 : decode cc pc = .ok (.lcmp, 1)) (d : decode cc (pc + 1) = .ok (.ifCond .le off, 3)) (ht : ((pc + 1 : Nat) : Int) + off = (tgt : Int)) (kt : x ≤ y → J p l e R s m args below meth c Q nL G rg kc ks I L tgt lv st) (kf : ¬ x ≤ y → J p l e R s m args below meth c Q nL G rg kc ks I L (pc + 1 + 3) lv st) : J p l e R s m args below meth c Q nL G rg kc ks I L pc lv (.long y :: .long x :: st) := j_lcmp C d0 (j_if_le C d ht (fun h => kt ((lc_le x y).mp h)) (fun h => kf (fun q => h ((lc_le x y).mpr q))))
theorem j_ldc (C : Cx p s m args meth c cc nL own G) {idx : Nat} {v : Int32} (hw : Cond.constant own idx v ∈ tblG) (d : decode cc pc = .ok (.ldc idx, 2)) (k : J p l e R s m args below meth c Q nL G rg kc ks I L (pc + 2) lv (.int v :: st)) : J p l e R s m args below meth c Q nL G rg kc ks I L pc lv st := fun H locs ls hP hS hl => lv_ldc C.1 C.2.1 C.2.2.2.1 (C.2.2.2.2.1 _ hw) d (k H locs ls hP hS hl)
theorem j_ldc2 (C : Cx p s m args meth c cc nL own G) {idx : Nat} {v : Int64} (hw : Cond.constantLong own idx v ∈ tblG) (d : decode cc pc = .ok (.ldc2_w idx, 3)) (k : J p l e R s m args below meth c Q nL G rg kc ks I L (pc + 3) lv (.long v :: st)) : J p l e R s m args below meth c Q nL G rg kc ks I L pc lv st := fun H locs ls hP hS hl => lv_ldc2 C.1 C.2.1 C.2.2.2.1 (C.2.2.2.2.1 _ hw) d (k H locs ls hP hS hl)
theorem j_ldc2d (C : Cx p s m args meth c cc nL own G) {idx : Nat} {v : UInt64} (hw : Cond.constantDouble own idx v ∈ tblG) (d : decode cc pc = .ok (.ldc2_w idx, 3)) (k : J p l e R s m args below meth c Q nL G rg kc ks I L (pc + 3) lv (.double v :: st)) : J p l e R s m args below meth c Q nL G rg kc ks I L pc lv st := fun H locs ls hP hS hl => lv_ldc2d C.1 C.2.1 C.2.2.2.1 (C.2.2.2.2.1 _ hw) d (k H locs ls hP hS hl)
theorem j_dconst0 (C : Cx p s m args meth c cc nL own G) (d : decode cc pc = .ok (.dconst 0, 1)) (k : J p l e R s m args below meth c Q nL G rg kc ks I L (pc + 1) lv (.double FP.dconst0 :: st)) : J p l e R s m args below meth c Q nL G rg kc ks I L pc lv st := fun H locs ls hP hS hl => lv_dconst0 C.1 C.2.1 d (k H locs ls hP hS hl)
theorem j_dconst1 (C : Cx p s m args meth c cc nL own G) (d : decode cc pc = .ok (.dconst 1, 1)) (k : J p l e R s m args below meth c Q nL G rg kc ks I L (pc + 1) lv (.double FP.dconst1 :: st)) : J p l e R s m args below meth c Q nL G rg kc ks I L pc lv st := fun H locs ls hP hS hl => lv_dconst1 C.1 C.2.1 d (k H locs ls hP hS hl)
theorem rg_obj {G : GT} {rg : RgT} {I : II} {L : LL} {o ci : Nat} {h : ShT} (hs : rg.2 o = h) (hc : h.1 = ci + 6) : rg_cell G I L o (rg.2 o) = .inr (ci, rg_fvs (gB G) I L o 0 h.2.2.2) := by
  rw [hs, rg_cell, if_neg (by omega), if_neg (by omega), if_neg (by omega), if_neg (by omega), hc, Nat.add_sub_cancel]
/-- a field of class ci at place k is linked at idx of own's pool -/
def FL (own : String) (idx ci k : Nat) : Prop := ∃ (C : String) (T : u_T) (N : Nat), vwCl[ci]? = some (C, T, N) ∧ k < N ∧ (∀ w ∈ u_ws C T N, w ∈ tblG) ∧ (T k).1 = C ∧ (Cond.fieldLink own idx C (T k).2.1 (T k).2.2.1 ∈ tblG ∨ ∃ host, Cond.fieldLinkNest own idx C (T k).2.1 (T k).2.2.1 host ∈ xw)
/-- and may be written, with values of type ty -/
def FW (own : String) (idx ci k : Nat) (ty : FieldType) : Prop := ∃ (C : String) (T : u_T) (N : Nat) (ty0 : Nat → FieldType), vwCl[ci]? = some (C, T, N) ∧ k < N ∧ (∀ w ∈ u_ws C T N, w ∈ tblG) ∧ (T k).1 = C ∧ (Cond.fieldLink own idx C (T k).2.1 (T k).2.2.1 ∈ tblG ∨ ∃ host, Cond.fieldLinkNest own idx C (T k).2.1 (T k).2.2.1 host ∈ xw) ∧ (∀ k, k < N → parseFieldDescriptor (T k).2.2.1 = some (ty0 k)) ∧ (∀ a, a < N → ∀ b, b < N → a ≠ b → (T a).2.1 ≠ (T b).2.1) ∧ (T k).2.2.2 = false ∧ parseFieldDescriptor (T k).2.2.1 = some ty
theorem j_getI (C : Cx p s m args meth c cc nL own G) {idx ci q z o : Nat} {h : ShT} (fl : FL own idx ci q) (ho : o < rg.1) (hs : rg.2 o = h) (hc : h.1 = ci + 6) (hq : h.2.2.2[q]? = some (0, z)) (d : decode cc pc = .ok (.getfield idx, 3)) (k : J p l e R s m args below meth c Q nL G rg kc ks I L (pc + 3) lv (.int (I o q) :: st)) : J p l e R s m args below meth c Q nL G rg kc ks I L pc lv (.ref (gB G + o) :: st) := by
  intro H locs ls hP hS hl
  obtain ⟨Cn, T, N, h1, h2, h3, h4, h5⟩ := fl
  have he := rg_at (G := G) (I := I) (L := L) ho
  rw [rg_obj hs hc] at he
  have hv : (rg_fvs (gB G) I L o 0 h.2.2.2)[q]? = some (.int (I o q)) := by rw [rg_fvs_get, hq, Nat.zero_add]; rfl
  rcases h5 with h5 | ⟨host, h5⟩
  · exact va_get C.1 C.2.1 C.2.2.2.2.1 h3 C.2.2.2.1 C.2.2.2.2.2.1 hP o he h1 q h2 (C.2.2.2.2.1 _ h5) (by rw [h4]; exact fun _ z => z) hv d (k H locs ls hP hS hl)
  · exact va_getN C.1 C.2.1 C.2.2.2.2.1 h3 C.2.2.2.1 C.2.2.2.2.2.1 hP o he h1 q h2 (va_Nw.use rfl (C.2.2.2.2.2.2.2 _ h5)) (by rw [h4]; exact fun _ z => z) hv d (k H locs ls hP hS hl)
theorem j_getL (C : Cx p s m args meth c cc nL own G) {idx ci q z o : Nat} {h : ShT} (fl : FL own idx ci q) (ho : o < rg.1) (hs : rg.2 o = h) (hc : h.1 = ci + 6) (hq : h.2.2.2[q]? = some (1, z)) (d : decode cc pc = .ok (.getfield idx, 3)) (k : J p l e R s m args below meth c Q nL G rg kc ks I L (pc + 3) lv (.long (L o q) :: st)) : J p l e R s m args below meth c Q nL G rg kc ks I L pc lv (.ref (gB G + o) :: st) := by
  intro H locs ls hP hS hl
  obtain ⟨Cn, T, N, h1, h2, h3, h4, h5⟩ := fl
  have he := rg_at (G := G) (I := I) (L := L) ho
  rw [rg_obj hs hc] at he
  have hv : (rg_fvs (gB G) I L o 0 h.2.2.2)[q]? = some (.long (L o q)) := by rw [rg_fvs_get, hq, Nat.zero_add]; rfl
  rcases h5 with h5 | ⟨host, h5⟩
  · exact va_get C.1 C.2.1 C.2.2.2.2.1 h3 C.2.2.2.1 C.2.2.2.2.2.1 hP o he h1 q h2 (C.2.2.2.2.1 _ h5) (by rw [h4]; exact fun _ z => z) hv d (k H locs ls hP hS hl)
  · exact va_getN C.1 C.2.1 C.2.2.2.2.1 h3 C.2.2.2.1 C.2.2.2.2.2.1 hP o he h1 q h2 (va_Nw.use rfl (C.2.2.2.2.2.2.2 _ h5)) (by rw [h4]; exact fun _ z => z) hv d (k H locs ls hP hS hl)
theorem j_getR (C : Cx p s m args meth c cc nL own G) {idx ci q z o : Nat} {h : ShT} (fl : FL own idx ci q) (ho : o < rg.1) (hs : rg.2 o = h) (hc : h.1 = ci + 6) (hq : h.2.2.2[q]? = some (2, z)) (d : decode cc pc = .ok (.getfield idx, 3)) (k : J p l e R s m args below meth c Q nL G rg kc ks I L (pc + 3) lv (.ref (gB G + z) :: st)) : J p l e R s m args below meth c Q nL G rg kc ks I L pc lv (.ref (gB G + o) :: st) := by
  intro H locs ls hP hS hl
  obtain ⟨Cn, T, N, h1, h2, h3, h4, h5⟩ := fl
  have he := rg_at (G := G) (I := I) (L := L) ho
  rw [rg_obj hs hc] at he
  have hv : (rg_fvs (gB G) I L o 0 h.2.2.2)[q]? = some (.ref (gB G + z)) := by rw [rg_fvs_get, hq, Nat.zero_add]; rfl
  rcases h5 with h5 | ⟨host, h5⟩
  · exact va_get C.1 C.2.1 C.2.2.2.2.1 h3 C.2.2.2.1 C.2.2.2.2.2.1 hP o he h1 q h2 (C.2.2.2.2.1 _ h5) (by rw [h4]; exact fun _ z => z) hv d (k H locs ls hP hS hl)
  · exact va_getN C.1 C.2.1 C.2.2.2.2.1 h3 C.2.2.2.1 C.2.2.2.2.2.1 hP o he h1 q h2 (va_Nw.use rfl (C.2.2.2.2.2.2.2 _ h5)) (by rw [h4]; exact fun _ z => z) hv d (k H locs ls hP hS hl)
theorem j_putI (C : Cx p s m args meth c cc nL own G) {idx ci q z o : Nat} {h : ShT} {ty : FieldType} {v : Int32} (fl : FW own idx ci q ty) (ho : o < rg.1) (hs : rg.2 o = h) (hc : h.1 = ci + 6) (hq : h.2.2.2[q]? = some (0, z)) (hn : narrow ty (.int v) = .int v) (hfit : fits ty (.int v) = true) (d : decode cc pc = .ok (.putfield idx, 3)) (k : J p l e R s m args below meth c Q nL G rg kc ks (up2 I o q v) L (pc + 3) lv st) : J p l e R s m args below meth c Q nL G rg kc ks I L pc lv (.int v :: .ref (gB G + o) :: st) := by
  intro H locs ls hP hS hl
  obtain ⟨Cn, T, N, ty0, h1, h2, h3, h4, h5, h6, h7, h8, h9⟩ := fl
  have he := rg_at (G := G) (I := I) (L := L) ho
  rw [rg_obj hs hc] at he
  have hlen : q < (rg_fvs (gB G) I L o 0 h.2.2.2).length := by rw [rg_fvs_len]; exact (List.getElem?_eq_some_iff.mp hq).1
  have hw : (rg_W G rg I L).set o (gB G + o, .inr (ci, (rg_fvs (gB G) I L o 0 h.2.2.2).set q (.int v))) = rg_W G rg (up2 I o q v) (L) := by
    refine rg_set ho (fun w hw => ?_) (fun w hw => ?_) ?_
    · first | rfl | exact up2_ne _ hw
    · first | rfl | exact up2_ne _ hw
    · rw [rg_obj hs hc, rg_fvs_set h.2.2.2 0 q (Nat.zero_add q) hq]
  rcases h5 with h5 | ⟨host, h5⟩
  · exact va_put C.1 C.2.1 C.2.2.2.2.1 h3 ty0 h6 h7 C.2.2.2.1 C.2.2.2.2.2.1 hP rg_D hS o he h1 q h2 (C.2.2.2.2.1 _ h5) (by rw [h4]; exact fun _ z => z) h8 h9 hn hfit hlen d (fun H1 locs1 hP1 hD1 hS1 => k H1 locs1 ls (by rw [hw] at hP1; exact hP1) hS1 hl)
  · exact va_putN C.1 C.2.1 C.2.2.2.2.1 h3 ty0 h6 h7 C.2.2.2.1 C.2.2.2.2.2.1 hP rg_D hS o he h1 q h2 (va_Nw.use rfl (C.2.2.2.2.2.2.2 _ h5)) (by rw [h4]; exact fun _ z => z) h8 h9 hn hfit hlen d (fun H1 locs1 hP1 hD1 hS1 => k H1 locs1 ls (by rw [hw] at hP1; exact hP1) hS1 hl)
theorem j_putL (C : Cx p s m args meth c cc nL own G) {idx ci q z o : Nat} {h : ShT} {ty : FieldType} {v : Int64} (fl : FW own idx ci q ty) (ho : o < rg.1) (hs : rg.2 o = h) (hc : h.1 = ci + 6) (hq : h.2.2.2[q]? = some (1, z)) (hn : narrow ty (.long v) = .long v) (hfit : fits ty (.long v) = true) (d : decode cc pc = .ok (.putfield idx, 3)) (k : J p l e R s m args below meth c Q nL G rg kc ks I (up2 L o q v) (pc + 3) lv st) : J p l e R s m args below meth c Q nL G rg kc ks I L pc lv (.long v :: .ref (gB G + o) :: st) := by
  intro H locs ls hP hS hl
  obtain ⟨Cn, T, N, ty0, h1, h2, h3, h4, h5, h6, h7, h8, h9⟩ := fl
  have he := rg_at (G := G) (I := I) (L := L) ho
  rw [rg_obj hs hc] at he
  have hlen : q < (rg_fvs (gB G) I L o 0 h.2.2.2).length := by rw [rg_fvs_len]; exact (List.getElem?_eq_some_iff.mp hq).1
  have hw : (rg_W G rg I L).set o (gB G + o, .inr (ci, (rg_fvs (gB G) I L o 0 h.2.2.2).set q (.long v))) = rg_W G rg (I) (up2 L o q v) := by
    refine rg_set ho (fun w hw => ?_) (fun w hw => ?_) ?_
    · first | rfl | exact up2_ne _ hw
    · first | rfl | exact up2_ne _ hw
    · rw [rg_obj hs hc, rg_fvs_setL h.2.2.2 0 q (Nat.zero_add q) hq]
  rcases h5 with h5 | ⟨host, h5⟩
  · exact va_put C.1 C.2.1 C.2.2.2.2.1 h3 ty0 h6 h7 C.2.2.2.1 C.2.2.2.2.2.1 hP rg_D hS o he h1 q h2 (C.2.2.2.2.1 _ h5) (by rw [h4]; exact fun _ z => z) h8 h9 hn hfit hlen d (fun H1 locs1 hP1 hD1 hS1 => k H1 locs1 ls (by rw [hw] at hP1; exact hP1) hS1 hl)
  · exact va_putN C.1 C.2.1 C.2.2.2.2.1 h3 ty0 h6 h7 C.2.2.2.1 C.2.2.2.2.2.1 hP rg_D hS o he h1 q h2 (va_Nw.use rfl (C.2.2.2.2.2.2.2 _ h5)) (by rw [h4]; exact fun _ z => z) h8 h9 hn hfit hlen d (fun H1 locs1 hP1 hD1 hS1 => k H1 locs1 ls (by rw [hw] at hP1; exact hP1) hS1 hl)
theorem j_iald (C : Cx p s m args meth c cc nL own G) {o : Nat} {h : ShT} {i : Int32} (ho : o < rg.1) (hs : rg.2 o = h) (hc : h.1 = 0) (hin : vp_in i h.2.1) (d : decode cc pc = .ok (.iaload, 1)) (k : J p l e R s m args below meth c Q nL G rg kc ks I L (pc + 1) lv (.int (I o i.toNatClampNeg) :: st)) : J p l e R s m args below meth c Q nL G rg kc ks I L pc lv (.int i :: .ref (gB G + o) :: st) := by
  intro H locs ls hP hS hl
  have he := rg_at (G := G) (I := I) (L := L) ho
  rw [hs] at he
  have hcell : rg_cell G I L o h = .inl (G.2.1 0, h.2.1, .inl (I o)) := by simp [rg_cell, hc]
  rw [hcell] at he
  exact va_iald C.1 C.2.1 C.2.2.2.2.2.1 hP o 0 he rfl hin d (k H locs ls hP hS hl)
theorem j_lald (C : Cx p s m args meth c cc nL own G) {o : Nat} {h : ShT} {i : Int32} (ho : o < rg.1) (hs : rg.2 o = h) (hc : h.1 = 1) (hin : vp_in i h.2.1) (d : decode cc pc = .ok (.laload, 1)) (k : J p l e R s m args below meth c Q nL G rg kc ks I L (pc + 1) lv (.long (L o i.toNatClampNeg) :: st)) : J p l e R s m args below meth c Q nL G rg kc ks I L pc lv (.int i :: .ref (gB G + o) :: st) := by
  intro H locs ls hP hS hl
  have he := rg_at (G := G) (I := I) (L := L) ho
  rw [hs] at he
  have hcell : rg_cell G I L o h = .inl (G.2.1 1, h.2.1, .inr (.inl (L o))) := by simp [rg_cell, hc]
  rw [hcell] at he
  exact va_lald C.1 C.2.1 C.2.2.2.2.2.1 hP o 1 he rfl hin d (k H locs ls hP hS hl)
theorem j_zald (C : Cx p s m args meth c cc nL own G) {o : Nat} {h : ShT} {i : Int32} (ho : o < rg.1) (hs : rg.2 o = h) (hc : h.1 = 2) (hin : vp_in i h.2.1) (d : decode cc pc = .ok (.baload, 1)) (k : J p l e R s m args below meth c Q nL G rg kc ks I L (pc + 1) lv (.int (I o i.toNatClampNeg) :: st)) : J p l e R s m args below meth c Q nL G rg kc ks I L pc lv (.int i :: .ref (gB G + o) :: st) := by
  intro H locs ls hP hS hl
  have he := rg_at (G := G) (I := I) (L := L) ho
  rw [hs] at he
  have hcell : rg_cell G I L o h = .inl (G.2.1 2, h.2.1, .inl (I o)) := by simp [rg_cell, hc]
  rw [hcell] at he
  exact va_zald C.1 C.2.1 C.2.2.2.2.2.1 hP o 2 he rfl hin d (k H locs ls hP hS hl)
theorem j_aald3 (C : Cx p s m args meth c cc nL own G) {o : Nat} {h : ShT} {i : Int32} (ho : o < rg.1) (hs : rg.2 o = h) (hc : h.1 = 3) (hin : vp_in i h.2.1) {t : Nat} (ht : h.2.2.1 i.toNatClampNeg = t) (h0 : t ≠ 0) (d : decode cc pc = .ok (.aaload, 1)) (k : J p l e R s m args below meth c Q nL G rg kc ks I L (pc + 1) lv (.ref (gB G + t) :: st)) : J p l e R s m args below meth c Q nL G rg kc ks I L pc lv (.int i :: .ref (gB G + o) :: st) := by
  intro H locs ls hP hS hl
  have he := rg_at (G := G) (I := I) (L := L) ho
  rw [hs] at he
  have hcell : rg_cell G I L o h = .inl (G.2.1 3, h.2.1, .inr (.inr (.inr (.inr (fun j => rg_tg (gB G) (h.2.2.1 j)))))) := by simp [rg_cell, hc]
  rw [hcell] at he
  refine va_aldq (C := RX2) C.1 C.2.1 C.2.2.2.2.2.1 hP o 3 he rfl hin d ?_
  have hv : va_rf (rg_tg (gB G) (h.2.2.1 i.toNatClampNeg)) = .ref (gB G + t) := by rw [ht, rg_tg, if_neg h0]; rfl
  rw [hv]
  exact k H locs ls hP hS hl
theorem j_aald4 (C : Cx p s m args meth c cc nL own G) {o : Nat} {h : ShT} {i : Int32} (ho : o < rg.1) (hs : rg.2 o = h) (hc : h.1 = 4) (hin : vp_in i h.2.1) {t : Nat} (ht : h.2.2.1 i.toNatClampNeg = t) (h0 : t ≠ 0) (d : decode cc pc = .ok (.aaload, 1)) (k : J p l e R s m args below meth c Q nL G rg kc ks I L (pc + 1) lv (.ref (gB G + t) :: st)) : J p l e R s m args below meth c Q nL G rg kc ks I L pc lv (.int i :: .ref (gB G + o) :: st) := by
  intro H locs ls hP hS hl
  have he := rg_at (G := G) (I := I) (L := L) ho
  rw [hs] at he
  have hcell : rg_cell G I L o h = .inl (G.2.1 4, h.2.1, .inr (.inr (.inr (.inr (fun j => rg_tg (gB G) (h.2.2.1 j)))))) := by simp [rg_cell, hc]
  rw [hcell] at he
  refine va_aldq (C := RX5) C.1 C.2.1 C.2.2.2.2.2.1 hP o 4 he rfl hin d ?_
  have hv : va_rf (rg_tg (gB G) (h.2.2.1 i.toNatClampNeg)) = .ref (gB G + t) := by rw [ht, rg_tg, if_neg h0]; rfl
  rw [hv]
  exact k H locs ls hP hS hl
theorem j_aald5 (C : Cx p s m args meth c cc nL own G) {o : Nat} {h : ShT} {i : Int32} (ho : o < rg.1) (hs : rg.2 o = h) (hc : h.1 = 5) (hin : vp_in i h.2.1) {t : Nat} (ht : h.2.2.1 i.toNatClampNeg = t) (h0 : t ≠ 0) (d : decode cc pc = .ok (.aaload, 1)) (k : J p l e R s m args below meth c Q nL G rg kc ks I L (pc + 1) lv (.ref (gB G + t) :: st)) : J p l e R s m args below meth c Q nL G rg kc ks I L pc lv (.int i :: .ref (gB G + o) :: st) := by
  intro H locs ls hP hS hl
  have he := rg_at (G := G) (I := I) (L := L) ho
  rw [hs] at he
  have hcell : rg_cell G I L o h = .inl (G.2.1 5, h.2.1, .inr (.inr (.inr (.inr (fun j => rg_tg (gB G) (h.2.2.1 j)))))) := by simp [rg_cell, hc]
  rw [hcell] at he
  refine va_aldq (C := RX1) C.1 C.2.1 C.2.2.2.2.2.1 hP o 5 he rfl hin d ?_
  have hv : va_rf (rg_tg (gB G) (h.2.2.1 i.toNatClampNeg)) = .ref (gB G + t) := by rw [ht, rg_tg, if_neg h0]; rfl
  rw [hv]
  exact k H locs ls hP hS hl
theorem j_iast (C : Cx p s m args meth c cc nL own G) {o : Nat} {h : ShT} {i : Int32} {x : Int32} (ho : o < rg.1) (hs : rg.2 o = h) (hc : h.1 = 0) (hin : vp_in i h.2.1)  (d : decode cc pc = .ok (.iastore, 1)) (k : J p l e R s m args below meth c Q nL G rg kc ks (up2 I o i.toNatClampNeg x) L (pc + 1) lv st) : J p l e R s m args below meth c Q nL G rg kc ks I L pc lv (.int x :: .int i :: .ref (gB G + o) :: st) := by
  intro H locs ls hP hS hl
  have he := rg_at (G := G) (I := I) (L := L) ho
  rw [hs] at he
  have hcell : rg_cell G I L o h = .inl (G.2.1 0, h.2.1, .inl (I o)) := by simp [rg_cell, hc]
  rw [hcell] at he
  have hw : (rg_W G rg I L).set o (gB G + o, .inl (G.2.1 0, h.2.1, .inl (upd (I o) i.toNatClampNeg x))) = rg_W G rg (up2 I o i.toNatClampNeg x) (L) := by
    refine rg_set ho (fun w hw => ?_) (fun w hw => ?_) ?_
    · first | rfl | exact up2_ne _ hw
    · first | rfl | exact up2_ne _ hw
    · rw [hs]
      simp only [rg_cell, hc, up2, va_up_self]
      simp
      try rfl
  exact va_iast C.1 C.2.1 C.2.2.2.2.2.1 hP rg_D hS o 0 he rfl hin d (fun H1 locs1 hP1 hD1 hS1 => k H1 locs1 ls (by  rw [hw] at hP1; exact hP1) hS1 hl)
theorem j_last (C : Cx p s m args meth c cc nL own G) {o : Nat} {h : ShT} {i : Int32} {x : Int64} (ho : o < rg.1) (hs : rg.2 o = h) (hc : h.1 = 1) (hin : vp_in i h.2.1)  (d : decode cc pc = .ok (.lastore, 1)) (k : J p l e R s m args below meth c Q nL G rg kc ks I (up2 L o i.toNatClampNeg x) (pc + 1) lv st) : J p l e R s m args below meth c Q nL G rg kc ks I L pc lv (.long x :: .int i :: .ref (gB G + o) :: st) := by
  intro H locs ls hP hS hl
  have he := rg_at (G := G) (I := I) (L := L) ho
  rw [hs] at he
  have hcell : rg_cell G I L o h = .inl (G.2.1 1, h.2.1, .inr (.inl (L o))) := by simp [rg_cell, hc]
  rw [hcell] at he
  have hw : (rg_W G rg I L).set o (gB G + o, .inl (G.2.1 1, h.2.1, .inr (.inl (vp_updL (L o) i.toNatClampNeg x)))) = rg_W G rg (I) (up2 L o i.toNatClampNeg x) := by
    refine rg_set ho (fun w hw => ?_) (fun w hw => ?_) ?_
    · first | rfl | exact up2_ne _ hw
    · first | rfl | exact up2_ne _ hw
    · rw [hs]
      simp only [rg_cell, hc, up2, va_up_self]
      simp
      try rfl
  exact va_last C.1 C.2.1 C.2.2.2.2.2.1 hP rg_D hS o 1 he rfl hin d (fun H1 locs1 hP1 hD1 hS1 => k H1 locs1 ls (by  rw [hw] at hP1; exact hP1) hS1 hl)
theorem j_zast (C : Cx p s m args meth c cc nL own G) {o : Nat} {h : ShT} {i : Int32} {x : Int32} (ho : o < rg.1) (hs : rg.2 o = h) (hc : h.1 = 2) (hin : vp_in i h.2.1) (hnar : vp_nar .boolean x = x) (d : decode cc pc = .ok (.bastore, 1)) (k : J p l e R s m args below meth c Q nL G rg kc ks (up2 I o i.toNatClampNeg x) L (pc + 1) lv st) : J p l e R s m args below meth c Q nL G rg kc ks I L pc lv (.int x :: .int i :: .ref (gB G + o) :: st) := by
  intro H locs ls hP hS hl
  have he := rg_at (G := G) (I := I) (L := L) ho
  rw [hs] at he
  have hcell : rg_cell G I L o h = .inl (G.2.1 2, h.2.1, .inl (I o)) := by simp [rg_cell, hc]
  rw [hcell] at he
  have hw : (rg_W G rg I L).set o (gB G + o, .inl (G.2.1 2, h.2.1, .inl (upd (I o) i.toNatClampNeg x))) = rg_W G rg (up2 I o i.toNatClampNeg x) (L) := by
    refine rg_set ho (fun w hw => ?_) (fun w hw => ?_) ?_
    · first | rfl | exact up2_ne _ hw
    · first | rfl | exact up2_ne _ hw
    · rw [hs]
      simp only [rg_cell, hc, up2, va_up_self]
      simp
      try rfl
  exact va_zast C.1 C.2.1 C.2.2.2.2.2.1 hP rg_D hS o 2 he rfl hin d (fun H1 locs1 hP1 hD1 hS1 => k H1 locs1 ls (by rw [hnar] at hP1; rw [hw] at hP1; exact hP1) hS1 hl)
theorem j_alen (C : Cx p s m args meth c cc nL own G) {o : Nat} {h : ShT} {v : Int32} (ho : o < rg.1) (hs : rg.2 o = h) (hc : h.1 < 6) (hv : Int32.ofNat h.2.1 = v) (d : decode cc pc = .ok (.arraylength, 1)) (k : J p l e R s m args below meth c Q nL G rg kc ks I L (pc + 1) lv (.int v :: st)) : J p l e R s m args below meth c Q nL G rg kc ks I L pc lv (.ref (gB G + o) :: st) := by
  intro H locs ls hP hS hl
  have he := rg_at (G := G) (I := I) (L := L) ho
  rw [hs] at he
  rcases (show h.1 = 0 ∨ h.1 = 1 ∨ h.1 = 2 ∨ h.1 = 3 ∨ h.1 = 4 ∨ h.1 = 5 by omega) with q | q | q | q | q | q
  · rw [show rg_cell G I L o h = .inl (G.2.1 0, h.2.1, .inl (I o)) by simp [rg_cell, q]] at he
    exact va_alen C.1 C.2.1 C.2.2.2.2.2.1 hP o 0 he rfl hv d (k H locs ls hP hS hl)
  · rw [show rg_cell G I L o h = .inl (G.2.1 1, h.2.1, .inr (.inl (L o))) by simp [rg_cell, q]] at he
    exact va_alen C.1 C.2.1 C.2.2.2.2.2.1 hP o 1 he rfl hv d (k H locs ls hP hS hl)
  · rw [show rg_cell G I L o h = .inl (G.2.1 2, h.2.1, .inl (I o)) by simp [rg_cell, q]] at he
    exact va_alen C.1 C.2.1 C.2.2.2.2.2.1 hP o 2 he rfl hv d (k H locs ls hP hS hl)
  · rw [show rg_cell G I L o h = .inl (G.2.1 3, h.2.1, .inr (.inr (.inr (.inr (fun j => rg_tg (gB G) (h.2.2.1 j)))))) by simp [rg_cell, q]] at he
    exact va_alen C.1 C.2.1 C.2.2.2.2.2.1 hP o 3 he rfl hv d (k H locs ls hP hS hl)
  · rw [show rg_cell G I L o h = .inl (G.2.1 4, h.2.1, .inr (.inr (.inr (.inr (fun j => rg_tg (gB G) (h.2.2.1 j)))))) by simp [rg_cell, q]] at he
    exact va_alen C.1 C.2.1 C.2.2.2.2.2.1 hP o 4 he rfl hv d (k H locs ls hP hS hl)
  · rw [show rg_cell G I L o h = .inl (G.2.1 5, h.2.1, .inr (.inr (.inr (.inr (fun j => rg_tg (gB G) (h.2.2.1 j)))))) by simp [rg_cell, q]] at he
    exact va_alen C.1 C.2.1 C.2.2.2.2.2.1 hP o 5 he rfl hv d (k H locs ls hP hS hl)
end JROWS
end
section
/-! ===== contracts over a region, calls, ends ===== -/
def preR (G : GT) (rg : RgT) (I : II) (L : LL) (U : State) : Prop := va_P G.1 vwCl (rg_W G rg I L) U.heap ∧ va_K G.1 vwCl (gTys G) U ∧ NW U
def rmD (d : Nat) : Room := { frames := d, cells := 0, slots := 0, locals := 34 * d }
def wsOf (y : MethodName) (cc : ByteArray) (nL : Nat) (ret : Option FieldType) : List Cond := Cond.code y cc nL ret :: tblG
def QI (G : GT) (rg : RgT) (post : Int32 → II → LL → Prop) : Array Value → State → Outcome → State → Prop := va_Qi (fun r (u : II × LL) => post r u.1 u.2) (fun u t => preR G rg u.1 u.2 t) (rg_A G rg)
def QL (G : GT) (rg : RgT) (post : Int64 → II → LL → Prop) : Array Value → State → Outcome → State → Prop := va_Ql (fun r (u : II × LL) => post r u.1 u.2) (fun u t => preR G rg u.1 u.2 t) (rg_A G rg)
def QV (G : GT) (rg : RgT) (post : II → LL → Prop) : Array Value → State → Outcome → State → Prop := va_Qv (fun (u : II × LL) => post u.1 u.2) (fun u t => preR G rg u.1 u.2 t) (rg_A G rg)
def QR (G : GT) (rg : RgT) (post : Nat → II → LL → Prop) : Array Value → State → Outcome → State → Prop := va_Qr (fun (u : Nat × II × LL) => post u.1 u.2.1 u.2.2) (fun u a t => a = gB G + u.1 ∧ preR G rg u.2.1 u.2.2 t) (rg_A G rg)
theorem preR_blind {G : GT} {rg : RgT} {I : II} {L : LL} {av : List Value} : FrameBlind (va_Pc av (preR G rg I L)) := fun a U g mk q => ⟨q.1, q.2.1, va_K.moved (u := U) (U := U.calling g mk a) (Vm.Alike.refl U.vm) q.2.2.1, NW.same (u := U) (U := U.calling g mk a) rfl q.2.2.2⟩
theorem tbl_in {y : MethodName} {cc : ByteArray} {nL : Nat} {ret : Option FieldType} (h : Cond.code y cc nL ret ∈ tblG) : GoodIn tblG (wsOf y cc nL ret) := by
  intro w hw
  have hm : w ∈ tblG := by
    rcases List.mem_cons.mp hw with rfl | q
    · exact h
    · exact q
  exact ⟨hm, good_of_word (List.mem_filter.mp hm).2⟩
/-- a call of an instance method of class ci at idx of own's pool -/
def VC (own : String) (idx ci : Nat) (y : MethodName) (cc : ByteArray) (nL : Nat) (ret : Option FieldType) (n : Nat) : Prop :=
  ∃ (T : u_T) (N : Nat), vwCl[ci]? = some (y.cls, T, N) ∧ (y.cls ≠ "java/lang/invoke/MethodHandle" ∧ y.cls ≠ "java/lang/invoke/VarHandle" ∧ (parseMethodDescriptor y.desc).map (fun d => d.parameters.length) = some n) ∧ nL ≤ 15 ∧ Cond.code y cc nL ret ∈ tblG ∧ Cond.instanceMethod y ∈ tblG ∧ Cond.selects y.cls y y ∈ tblG ∧ Cond.initialized y.cls ∈ tblG ∧ (Cond.methodLink own idx y ∈ tblG ∨ ∃ host, Cond.methodLinkNest own idx y host ∈ xw)
/-- a call of a static method -/
def SC (own : String) (idx : Nat) (y : MethodName) (cc : ByteArray) (nL : Nat) (ret : Option FieldType) (n : Nat) : Prop :=
  (y.cls ≠ "java/lang/invoke/MethodHandle" ∧ y.cls ≠ "java/lang/invoke/VarHandle" ∧ (parseMethodDescriptor y.desc).map (fun d => d.parameters.length) = some n) ∧ nL ≤ 15 ∧ Cond.code y cc nL ret ∈ tblG ∧ Cond.static y ∈ tblG ∧ Cond.initialized y.cls ∈ tblG ∧ (Cond.methodLink own idx y ∈ tblG ∨ ∃ host, Cond.methodLinkNest own idx y host ∈ xw)

def CtI (l : Launch) (y : MethodName) (cc : ByteArray) (nL : Nat) (ret : Option FieldType) (d : Nat) (G : GT) (rg : RgT) (I : II) (L : LL) (av : List Value) (post : Int32 → II → LL → Prop) : Prop := Met l y (wsOf y cc nL ret) (rmD d) (va_Pc av (preR G rg I L)) (QI G rg post) 0 0 (rg_A G rg)
theorem ctI_of {l : Launch} {y : MethodName} {cc : ByteArray} {nL : Nat} {ret : Option FieldType} {d : Nat} {G : GT} {rg : RgT} {I : II} {L : LL} {av : List Value} {post : Int32 → II → LL → Prop} (lv : LV) (hlv : asl 0 lv = lv_args 0 av) (hlen : (lg_sl av).length ≤ nL) (hy : plainName y.cls = true)
    (body : ∀ (p : Program) (e : Env) (s : State) (m : MethodId) (args : Array Value) (below : List Frame) (meth : Method) (c : Code), Cx p s m args meth c cc nL y.cls G → meth.sig.returnType = ret → J p l e (rmD d) s m args below meth c (MQ below (QI G rg post) args s 0 0 (rg_A G rg)) nL G rg 0 0 I L 0 lv []) : CtI l y cc nL ret d G rg I L av post := by
  refine Met.ofW (cc := cc) (maxL := nL) (ret := ret) hy rfl ?_
  intro p e s m args below meth c s₁ B hml hv
  obtain ⟨rfl, hP, hK, hNW⟩ := hv
  have hts : ∀ w ∈ wsOf y cc nL ret, w.before av.toArray s = true := atoms_spec (ws := wsOf y cc nL ret) B.pre
  have hown : s.vm.findClass y.cls = some m.cls := findClass_of_methodNamed B.named
  have hl := lv_entry av (n := nL) hlen
  rw [lg_entry_eq]
  refine body p e s m _ below meth c ⟨B.exec, B.bytes, hml, hown, fun w hw => hts w (List.mem_cons_of_mem _ hw), hK, B.notSynchronized, hNW⟩ B.returns s.heap [] _ hP va_S.rf ?_
  rw [hlv]
  exact hl
theorem j_cvI {p : Program} {l : Launch} {e : Env} {R : Room} {s : State} {m : MethodId} {args : Array Value} {below : List Frame} {meth : Method} {c : Code} {Q : State → Prop} {cc : ByteArray} {nL : Nat} {own : String} {G : GT} {rg : RgT} {kc ks : Nat} {I : II} {L : LL} {pc : Nat} {lv : LV} {st rest As : List Value} {idx ci n d o : Nat} {y : MethodName} {cb : ByteArray} {nb : Nat} {ret : Option FieldType} {h : ShT} {post : Int32 → II → LL → Prop} (C : Cx p s m args meth c cc nL own G) (vc : VC own idx ci y cb nb ret n) (hM : CtI l y cb nb ret d G rg I L (.ref (gB G + o) :: As) post) (hR : d + 1 ≤ R.frames ∧ 34 * d + 34 ≤ R.locals) (ho : o < rg.1) (hs : rg.2 o = h) (hc : h.1 = ci + 6) (hn : As.length = n) (hst : st = As.reverse ++ .ref (gB G + o) :: rest) (hW : (rest.map fun v => v.category).sum ≤ 8) (hr : kc ≤ R.cells ∧ ks ≤ R.slots) (dd : decode cc pc = .ok (.invokevirtual idx, 3)) (kk : ∀ (r : Int32) (I1 : II) (L1 : LL), post r I1 L1 → J p l e R s m args below meth c Q nL G rg kc ks I1 L1 (pc + 3) lv (.int r :: rest)) : J p l e R s m args below meth c Q nL G rg kc ks I L pc lv st := by
  intro H locs ls hP hS hl
  obtain ⟨hx, hb, hml, hown, hts, hK, hlk, hNW⟩ := C
  obtain ⟨T, N, h1, h2, h3, h4, h5, h6, h7, h8⟩ := vc
  have he := rg_at (G := G) (I := I) (L := L) ho
  rw [rg_obj hs hc] at he
  have hrec := va_recv hK hP h1 he
  have hpre : PreV s H y.cls (gB G + o) (va_Pc (.ref (gB G + o) :: As) (preR G rg I L)) As := ⟨preR_blind, hrec, fun U hU hW => ⟨rfl, by rw [hU]; exact hP, va_K.moved hW.alike hK, hNW.warm hW⟩⟩
  have hroom : (rmD d).frames + 1 ≤ R.frames ∧ 8 + (nb + 11) + (rmD d).locals ≤ R.locals := ⟨hR.1, by show 8 + (nb + 11) + 34 * d ≤ R.locals; omega⟩
  have hin : (Cond.instanceMethod y).before args s = true := hts _ h5
  have hse : (Cond.selects y.cls y y).before args s = true := hts _ h6
  have hA0 : ∀ q, q < H.size → rg_A G rg q → rg_A G rg q := fun _ _ z => z
  have hA1 : ∀ q, rg_A G rg q → rg_A G rg q := fun _ z => z
  rcases h8 with h8 | ⟨host, h8⟩
  · exact va_calli (va_runV (As := As) (rest := rest) ⟨hx, hb, hml, hown, hts⟩ hM ⟨callB_of n hts (tbl_in h4) rfl rfl rfl (hts _ h7) (hts _ h8) h2 hroom, hin, hse⟩ hpre rfl hn hl.1 hst (lv_room hW) dd hr) hS hA0 hA1 (fun r u t H1 locs1 ht hvm hp hb _ _ hS1 => by obtain ⟨I1, L1⟩ := u; obtain ⟨hb1, hb2, hb3⟩ := hb; rw [ht] at hb1; exact kk r I1 L1 hp H1 locs1 ls hb1 hS1 hl)
  · exact va_calli (va_runVN (As := As) (rest := rest) (host := host) ⟨hx, hb, hml, hown, hts⟩ hM ⟨va_cnB n hts (tbl_in h4) rfl rfl rfl (hNW _ h8) (hts _ h7) h2 hroom, hin, hse⟩ hpre rfl hn hl.1 hst (lv_room hW) dd hr) hS hA0 hA1 (fun r u t H1 locs1 ht hvm hp hb _ _ hS1 => by obtain ⟨I1, L1⟩ := u; obtain ⟨hb1, hb2, hb3⟩ := hb; rw [ht] at hb1; exact kk r I1 L1 hp H1 locs1 ls hb1 hS1 hl)
theorem j_csI {p : Program} {l : Launch} {e : Env} {R : Room} {s : State} {m : MethodId} {args : Array Value} {below : List Frame} {meth : Method} {c : Code} {Q : State → Prop} {cc : ByteArray} {nL : Nat} {own : String} {G : GT} {rg : RgT} {kc ks : Nat} {I : II} {L : LL} {pc : Nat} {lv : LV} {st rest As : List Value} {idx n d : Nat} {y : MethodName} {cb : ByteArray} {nb : Nat} {ret : Option FieldType} {post : Int32 → II → LL → Prop} (C : Cx p s m args meth c cc nL own G) (vc : SC own idx y cb nb ret n) (hM : CtI l y cb nb ret d G rg I L As post) (hR : d + 1 ≤ R.frames ∧ 34 * d + 34 ≤ R.locals) (hn : As.length = n) (hst : st = As.reverse ++ rest) (hW : (rest.map fun v => v.category).sum ≤ 8) (hr : kc ≤ R.cells ∧ ks ≤ R.slots) (dd : decode cc pc = .ok (.invokestatic idx, 3)) (kk : ∀ (r : Int32) (I1 : II) (L1 : LL), post r I1 L1 → J p l e R s m args below meth c Q nL G rg kc ks I1 L1 (pc + 3) lv (.int r :: rest)) : J p l e R s m args below meth c Q nL G rg kc ks I L pc lv st := by
  intro H locs ls hP hS hl
  obtain ⟨hx, hb, hml, hown, hts, hK, hlk, hNW⟩ := C
  obtain ⟨h2, h3, h4, h5, h7, h8⟩ := vc
  have hpre : PreS s H (va_Pc As (preR G rg I L)) As := ⟨preR_blind, fun U hU hW => ⟨rfl, by rw [hU]; exact hP, va_K.moved hW.alike hK, hNW.warm hW⟩⟩
  have hroom : (rmD d).frames + 1 ≤ R.frames ∧ 8 + (nb + 11) + (rmD d).locals ≤ R.locals := ⟨hR.1, by show 8 + (nb + 11) + 34 * d ≤ R.locals; omega⟩
  have hin : (Cond.static y).before args s = true := hts _ h5
  have hA0 : ∀ q, q < H.size → rg_A G rg q → rg_A G rg q := fun _ _ z => z
  have hA1 : ∀ q, rg_A G rg q → rg_A G rg q := fun _ z => z
  rcases h8 with h8 | ⟨host, h8⟩
  · exact va_calli (va_runS (As := As) (rest := rest) ⟨hx, hb, hml, hown, hts⟩ hM ⟨callB_of n hts (tbl_in h4) rfl rfl rfl (hts _ h7) (hts _ h8) h2 hroom, hin⟩ hpre rfl hn hl.1 hst (lv_room hW) dd hr) hS hA0 hA1 (fun r u t H1 locs1 ht hvm hp hb _ _ hS1 => by obtain ⟨I1, L1⟩ := u; obtain ⟨hb1, hb2, hb3⟩ := hb; rw [ht] at hb1; exact kk r I1 L1 hp H1 locs1 ls hb1 hS1 hl)
  · exact va_calli (va_runSN (As := As) (rest := rest) (host := host) ⟨hx, hb, hml, hown, hts⟩ hM ⟨va_cnB n hts (tbl_in h4) rfl rfl rfl (hNW _ h8) (hts _ h7) h2 hroom, hin, trivial⟩ hpre rfl hn hl.1 hst (lv_room hW) dd hr) hS hA0 hA1 (fun r u t H1 locs1 ht hvm hp hb _ _ hS1 => by obtain ⟨I1, L1⟩ := u; obtain ⟨hb1, hb2, hb3⟩ := hb; rw [ht] at hb1; exact kk r I1 L1 hp H1 locs1 ls hb1 hS1 hl)
def CtL (l : Launch) (y : MethodName) (cc : ByteArray) (nL : Nat) (ret : Option FieldType) (d : Nat) (G : GT) (rg : RgT) (I : II) (L : LL) (av : List Value) (post : Int64 → II → LL → Prop) : Prop := Met l y (wsOf y cc nL ret) (rmD d) (va_Pc av (preR G rg I L)) (QL G rg post) 0 0 (rg_A G rg)
theorem ctL_of {l : Launch} {y : MethodName} {cc : ByteArray} {nL : Nat} {ret : Option FieldType} {d : Nat} {G : GT} {rg : RgT} {I : II} {L : LL} {av : List Value} {post : Int64 → II → LL → Prop} (lv : LV) (hlv : asl 0 lv = lv_args 0 av) (hlen : (lg_sl av).length ≤ nL) (hy : plainName y.cls = true)
    (body : ∀ (p : Program) (e : Env) (s : State) (m : MethodId) (args : Array Value) (below : List Frame) (meth : Method) (c : Code), Cx p s m args meth c cc nL y.cls G → meth.sig.returnType = ret → J p l e (rmD d) s m args below meth c (MQ below (QL G rg post) args s 0 0 (rg_A G rg)) nL G rg 0 0 I L 0 lv []) : CtL l y cc nL ret d G rg I L av post := by
  refine Met.ofW (cc := cc) (maxL := nL) (ret := ret) hy rfl ?_
  intro p e s m args below meth c s₁ B hml hv
  obtain ⟨rfl, hP, hK, hNW⟩ := hv
  have hts : ∀ w ∈ wsOf y cc nL ret, w.before av.toArray s = true := atoms_spec (ws := wsOf y cc nL ret) B.pre
  have hown : s.vm.findClass y.cls = some m.cls := findClass_of_methodNamed B.named
  have hl := lv_entry av (n := nL) hlen
  rw [lg_entry_eq]
  refine body p e s m _ below meth c ⟨B.exec, B.bytes, hml, hown, fun w hw => hts w (List.mem_cons_of_mem _ hw), hK, B.notSynchronized, hNW⟩ B.returns s.heap [] _ hP va_S.rf ?_
  rw [hlv]
  exact hl
theorem j_cvL {p : Program} {l : Launch} {e : Env} {R : Room} {s : State} {m : MethodId} {args : Array Value} {below : List Frame} {meth : Method} {c : Code} {Q : State → Prop} {cc : ByteArray} {nL : Nat} {own : String} {G : GT} {rg : RgT} {kc ks : Nat} {I : II} {L : LL} {pc : Nat} {lv : LV} {st rest As : List Value} {idx ci n d o : Nat} {y : MethodName} {cb : ByteArray} {nb : Nat} {ret : Option FieldType} {h : ShT} {post : Int64 → II → LL → Prop} (C : Cx p s m args meth c cc nL own G) (vc : VC own idx ci y cb nb ret n) (hM : CtL l y cb nb ret d G rg I L (.ref (gB G + o) :: As) post) (hR : d + 1 ≤ R.frames ∧ 34 * d + 34 ≤ R.locals) (ho : o < rg.1) (hs : rg.2 o = h) (hc : h.1 = ci + 6) (hn : As.length = n) (hst : st = As.reverse ++ .ref (gB G + o) :: rest) (hW : (rest.map fun v => v.category).sum ≤ 8) (hr : kc ≤ R.cells ∧ ks ≤ R.slots) (dd : decode cc pc = .ok (.invokevirtual idx, 3)) (kk : ∀ (r : Int64) (I1 : II) (L1 : LL), post r I1 L1 → J p l e R s m args below meth c Q nL G rg kc ks I1 L1 (pc + 3) lv (.long r :: rest)) : J p l e R s m args below meth c Q nL G rg kc ks I L pc lv st := by
  intro H locs ls hP hS hl
  obtain ⟨hx, hb, hml, hown, hts, hK, hlk, hNW⟩ := C
  obtain ⟨T, N, h1, h2, h3, h4, h5, h6, h7, h8⟩ := vc
  have he := rg_at (G := G) (I := I) (L := L) ho
  rw [rg_obj hs hc] at he
  have hrec := va_recv hK hP h1 he
  have hpre : PreV s H y.cls (gB G + o) (va_Pc (.ref (gB G + o) :: As) (preR G rg I L)) As := ⟨preR_blind, hrec, fun U hU hW => ⟨rfl, by rw [hU]; exact hP, va_K.moved hW.alike hK, hNW.warm hW⟩⟩
  have hroom : (rmD d).frames + 1 ≤ R.frames ∧ 8 + (nb + 11) + (rmD d).locals ≤ R.locals := ⟨hR.1, by show 8 + (nb + 11) + 34 * d ≤ R.locals; omega⟩
  have hin : (Cond.instanceMethod y).before args s = true := hts _ h5
  have hse : (Cond.selects y.cls y y).before args s = true := hts _ h6
  have hA0 : ∀ q, q < H.size → rg_A G rg q → rg_A G rg q := fun _ _ z => z
  have hA1 : ∀ q, rg_A G rg q → rg_A G rg q := fun _ z => z
  rcases h8 with h8 | ⟨host, h8⟩
  · exact va_calll (va_runV (As := As) (rest := rest) ⟨hx, hb, hml, hown, hts⟩ hM ⟨callB_of n hts (tbl_in h4) rfl rfl rfl (hts _ h7) (hts _ h8) h2 hroom, hin, hse⟩ hpre rfl hn hl.1 hst (lv_room hW) dd hr) hS hA0 hA1 (fun r u t H1 locs1 ht hvm hp hb _ _ hS1 => by obtain ⟨I1, L1⟩ := u; obtain ⟨hb1, hb2, hb3⟩ := hb; rw [ht] at hb1; exact kk r I1 L1 hp H1 locs1 ls hb1 hS1 hl)
  · exact va_calll (va_runVN (As := As) (rest := rest) (host := host) ⟨hx, hb, hml, hown, hts⟩ hM ⟨va_cnB n hts (tbl_in h4) rfl rfl rfl (hNW _ h8) (hts _ h7) h2 hroom, hin, hse⟩ hpre rfl hn hl.1 hst (lv_room hW) dd hr) hS hA0 hA1 (fun r u t H1 locs1 ht hvm hp hb _ _ hS1 => by obtain ⟨I1, L1⟩ := u; obtain ⟨hb1, hb2, hb3⟩ := hb; rw [ht] at hb1; exact kk r I1 L1 hp H1 locs1 ls hb1 hS1 hl)
theorem j_csL {p : Program} {l : Launch} {e : Env} {R : Room} {s : State} {m : MethodId} {args : Array Value} {below : List Frame} {meth : Method} {c : Code} {Q : State → Prop} {cc : ByteArray} {nL : Nat} {own : String} {G : GT} {rg : RgT} {kc ks : Nat} {I : II} {L : LL} {pc : Nat} {lv : LV} {st rest As : List Value} {idx n d : Nat} {y : MethodName} {cb : ByteArray} {nb : Nat} {ret : Option FieldType} {post : Int64 → II → LL → Prop} (C : Cx p s m args meth c cc nL own G) (vc : SC own idx y cb nb ret n) (hM : CtL l y cb nb ret d G rg I L As post) (hR : d + 1 ≤ R.frames ∧ 34 * d + 34 ≤ R.locals) (hn : As.length = n) (hst : st = As.reverse ++ rest) (hW : (rest.map fun v => v.category).sum ≤ 8) (hr : kc ≤ R.cells ∧ ks ≤ R.slots) (dd : decode cc pc = .ok (.invokestatic idx, 3)) (kk : ∀ (r : Int64) (I1 : II) (L1 : LL), post r I1 L1 → J p l e R s m args below meth c Q nL G rg kc ks I1 L1 (pc + 3) lv (.long r :: rest)) : J p l e R s m args below meth c Q nL G rg kc ks I L pc lv st := by
  intro H locs ls hP hS hl
  obtain ⟨hx, hb, hml, hown, hts, hK, hlk, hNW⟩ := C
  obtain ⟨h2, h3, h4, h5, h7, h8⟩ := vc
  have hpre : PreS s H (va_Pc As (preR G rg I L)) As := ⟨preR_blind, fun U hU hW => ⟨rfl, by rw [hU]; exact hP, va_K.moved hW.alike hK, hNW.warm hW⟩⟩
  have hroom : (rmD d).frames + 1 ≤ R.frames ∧ 8 + (nb + 11) + (rmD d).locals ≤ R.locals := ⟨hR.1, by show 8 + (nb + 11) + 34 * d ≤ R.locals; omega⟩
  have hin : (Cond.static y).before args s = true := hts _ h5
  have hA0 : ∀ q, q < H.size → rg_A G rg q → rg_A G rg q := fun _ _ z => z
  have hA1 : ∀ q, rg_A G rg q → rg_A G rg q := fun _ z => z
  rcases h8 with h8 | ⟨host, h8⟩
  · exact va_calll (va_runS (As := As) (rest := rest) ⟨hx, hb, hml, hown, hts⟩ hM ⟨callB_of n hts (tbl_in h4) rfl rfl rfl (hts _ h7) (hts _ h8) h2 hroom, hin⟩ hpre rfl hn hl.1 hst (lv_room hW) dd hr) hS hA0 hA1 (fun r u t H1 locs1 ht hvm hp hb _ _ hS1 => by obtain ⟨I1, L1⟩ := u; obtain ⟨hb1, hb2, hb3⟩ := hb; rw [ht] at hb1; exact kk r I1 L1 hp H1 locs1 ls hb1 hS1 hl)
  · exact va_calll (va_runSN (As := As) (rest := rest) (host := host) ⟨hx, hb, hml, hown, hts⟩ hM ⟨va_cnB n hts (tbl_in h4) rfl rfl rfl (hNW _ h8) (hts _ h7) h2 hroom, hin, trivial⟩ hpre rfl hn hl.1 hst (lv_room hW) dd hr) hS hA0 hA1 (fun r u t H1 locs1 ht hvm hp hb _ _ hS1 => by obtain ⟨I1, L1⟩ := u; obtain ⟨hb1, hb2, hb3⟩ := hb; rw [ht] at hb1; exact kk r I1 L1 hp H1 locs1 ls hb1 hS1 hl)
def CtV (l : Launch) (y : MethodName) (cc : ByteArray) (nL : Nat) (ret : Option FieldType) (d : Nat) (G : GT) (rg : RgT) (I : II) (L : LL) (av : List Value) (post : II → LL → Prop) : Prop := Met l y (wsOf y cc nL ret) (rmD d) (va_Pc av (preR G rg I L)) (QV G rg post) 0 0 (rg_A G rg)
theorem ctV_of {l : Launch} {y : MethodName} {cc : ByteArray} {nL : Nat} {ret : Option FieldType} {d : Nat} {G : GT} {rg : RgT} {I : II} {L : LL} {av : List Value} {post : II → LL → Prop} (lv : LV) (hlv : asl 0 lv = lv_args 0 av) (hlen : (lg_sl av).length ≤ nL) (hy : plainName y.cls = true)
    (body : ∀ (p : Program) (e : Env) (s : State) (m : MethodId) (args : Array Value) (below : List Frame) (meth : Method) (c : Code), Cx p s m args meth c cc nL y.cls G → meth.sig.returnType = ret → J p l e (rmD d) s m args below meth c (MQ below (QV G rg post) args s 0 0 (rg_A G rg)) nL G rg 0 0 I L 0 lv []) : CtV l y cc nL ret d G rg I L av post := by
  refine Met.ofW (cc := cc) (maxL := nL) (ret := ret) hy rfl ?_
  intro p e s m args below meth c s₁ B hml hv
  obtain ⟨rfl, hP, hK, hNW⟩ := hv
  have hts : ∀ w ∈ wsOf y cc nL ret, w.before av.toArray s = true := atoms_spec (ws := wsOf y cc nL ret) B.pre
  have hown : s.vm.findClass y.cls = some m.cls := findClass_of_methodNamed B.named
  have hl := lv_entry av (n := nL) hlen
  rw [lg_entry_eq]
  refine body p e s m _ below meth c ⟨B.exec, B.bytes, hml, hown, fun w hw => hts w (List.mem_cons_of_mem _ hw), hK, B.notSynchronized, hNW⟩ B.returns s.heap [] _ hP va_S.rf ?_
  rw [hlv]
  exact hl
theorem j_cvV {p : Program} {l : Launch} {e : Env} {R : Room} {s : State} {m : MethodId} {args : Array Value} {below : List Frame} {meth : Method} {c : Code} {Q : State → Prop} {cc : ByteArray} {nL : Nat} {own : String} {G : GT} {rg : RgT} {kc ks : Nat} {I : II} {L : LL} {pc : Nat} {lv : LV} {st rest As : List Value} {idx ci n d o : Nat} {y : MethodName} {cb : ByteArray} {nb : Nat} {ret : Option FieldType} {h : ShT} {post : II → LL → Prop} (C : Cx p s m args meth c cc nL own G) (vc : VC own idx ci y cb nb ret n) (hM : CtV l y cb nb ret d G rg I L (.ref (gB G + o) :: As) post) (hR : d + 1 ≤ R.frames ∧ 34 * d + 34 ≤ R.locals) (ho : o < rg.1) (hs : rg.2 o = h) (hc : h.1 = ci + 6) (hn : As.length = n) (hst : st = As.reverse ++ .ref (gB G + o) :: rest) (hW : (rest.map fun v => v.category).sum ≤ 8) (hr : kc ≤ R.cells ∧ ks ≤ R.slots) (dd : decode cc pc = .ok (.invokevirtual idx, 3)) (kk : ∀ (I1 : II) (L1 : LL), post I1 L1 → J p l e R s m args below meth c Q nL G rg kc ks I1 L1 (pc + 3) lv rest) : J p l e R s m args below meth c Q nL G rg kc ks I L pc lv st := by
  intro H locs ls hP hS hl
  obtain ⟨hx, hb, hml, hown, hts, hK, hlk, hNW⟩ := C
  obtain ⟨T, N, h1, h2, h3, h4, h5, h6, h7, h8⟩ := vc
  have he := rg_at (G := G) (I := I) (L := L) ho
  rw [rg_obj hs hc] at he
  have hrec := va_recv hK hP h1 he
  have hpre : PreV s H y.cls (gB G + o) (va_Pc (.ref (gB G + o) :: As) (preR G rg I L)) As := ⟨preR_blind, hrec, fun U hU hW => ⟨rfl, by rw [hU]; exact hP, va_K.moved hW.alike hK, hNW.warm hW⟩⟩
  have hroom : (rmD d).frames + 1 ≤ R.frames ∧ 8 + (nb + 11) + (rmD d).locals ≤ R.locals := ⟨hR.1, by show 8 + (nb + 11) + 34 * d ≤ R.locals; omega⟩
  have hin : (Cond.instanceMethod y).before args s = true := hts _ h5
  have hse : (Cond.selects y.cls y y).before args s = true := hts _ h6
  have hA0 : ∀ q, q < H.size → rg_A G rg q → rg_A G rg q := fun _ _ z => z
  have hA1 : ∀ q, rg_A G rg q → rg_A G rg q := fun _ z => z
  rcases h8 with h8 | ⟨host, h8⟩
  · exact va_callv (va_runV (As := As) (rest := rest) ⟨hx, hb, hml, hown, hts⟩ hM ⟨callB_of n hts (tbl_in h4) rfl rfl rfl (hts _ h7) (hts _ h8) h2 hroom, hin, hse⟩ hpre rfl hn hl.1 hst (lv_room hW) dd hr) hS hA0 hA1 (fun u t H1 locs1 ht hvm hp hb _ _ hS1 => by obtain ⟨I1, L1⟩ := u; obtain ⟨hb1, hb2, hb3⟩ := hb; rw [ht] at hb1; exact kk I1 L1 hp H1 locs1 ls hb1 hS1 hl)
  · exact va_callv (va_runVN (As := As) (rest := rest) (host := host) ⟨hx, hb, hml, hown, hts⟩ hM ⟨va_cnB n hts (tbl_in h4) rfl rfl rfl (hNW _ h8) (hts _ h7) h2 hroom, hin, hse⟩ hpre rfl hn hl.1 hst (lv_room hW) dd hr) hS hA0 hA1 (fun u t H1 locs1 ht hvm hp hb _ _ hS1 => by obtain ⟨I1, L1⟩ := u; obtain ⟨hb1, hb2, hb3⟩ := hb; rw [ht] at hb1; exact kk I1 L1 hp H1 locs1 ls hb1 hS1 hl)
theorem j_csV {p : Program} {l : Launch} {e : Env} {R : Room} {s : State} {m : MethodId} {args : Array Value} {below : List Frame} {meth : Method} {c : Code} {Q : State → Prop} {cc : ByteArray} {nL : Nat} {own : String} {G : GT} {rg : RgT} {kc ks : Nat} {I : II} {L : LL} {pc : Nat} {lv : LV} {st rest As : List Value} {idx n d : Nat} {y : MethodName} {cb : ByteArray} {nb : Nat} {ret : Option FieldType} {post : II → LL → Prop} (C : Cx p s m args meth c cc nL own G) (vc : SC own idx y cb nb ret n) (hM : CtV l y cb nb ret d G rg I L As post) (hR : d + 1 ≤ R.frames ∧ 34 * d + 34 ≤ R.locals) (hn : As.length = n) (hst : st = As.reverse ++ rest) (hW : (rest.map fun v => v.category).sum ≤ 8) (hr : kc ≤ R.cells ∧ ks ≤ R.slots) (dd : decode cc pc = .ok (.invokestatic idx, 3)) (kk : ∀ (I1 : II) (L1 : LL), post I1 L1 → J p l e R s m args below meth c Q nL G rg kc ks I1 L1 (pc + 3) lv rest) : J p l e R s m args below meth c Q nL G rg kc ks I L pc lv st := by
  intro H locs ls hP hS hl
  obtain ⟨hx, hb, hml, hown, hts, hK, hlk, hNW⟩ := C
  obtain ⟨h2, h3, h4, h5, h7, h8⟩ := vc
  have hpre : PreS s H (va_Pc As (preR G rg I L)) As := ⟨preR_blind, fun U hU hW => ⟨rfl, by rw [hU]; exact hP, va_K.moved hW.alike hK, hNW.warm hW⟩⟩
  have hroom : (rmD d).frames + 1 ≤ R.frames ∧ 8 + (nb + 11) + (rmD d).locals ≤ R.locals := ⟨hR.1, by show 8 + (nb + 11) + 34 * d ≤ R.locals; omega⟩
  have hin : (Cond.static y).before args s = true := hts _ h5
  have hA0 : ∀ q, q < H.size → rg_A G rg q → rg_A G rg q := fun _ _ z => z
  have hA1 : ∀ q, rg_A G rg q → rg_A G rg q := fun _ z => z
  rcases h8 with h8 | ⟨host, h8⟩
  · exact va_callv (va_runS (As := As) (rest := rest) ⟨hx, hb, hml, hown, hts⟩ hM ⟨callB_of n hts (tbl_in h4) rfl rfl rfl (hts _ h7) (hts _ h8) h2 hroom, hin⟩ hpre rfl hn hl.1 hst (lv_room hW) dd hr) hS hA0 hA1 (fun u t H1 locs1 ht hvm hp hb _ _ hS1 => by obtain ⟨I1, L1⟩ := u; obtain ⟨hb1, hb2, hb3⟩ := hb; rw [ht] at hb1; exact kk I1 L1 hp H1 locs1 ls hb1 hS1 hl)
  · exact va_callv (va_runSN (As := As) (rest := rest) (host := host) ⟨hx, hb, hml, hown, hts⟩ hM ⟨va_cnB n hts (tbl_in h4) rfl rfl rfl (hNW _ h8) (hts _ h7) h2 hroom, hin, trivial⟩ hpre rfl hn hl.1 hst (lv_room hW) dd hr) hS hA0 hA1 (fun u t H1 locs1 ht hvm hp hb _ _ hS1 => by obtain ⟨I1, L1⟩ := u; obtain ⟨hb1, hb2, hb3⟩ := hb; rw [ht] at hb1; exact kk I1 L1 hp H1 locs1 ls hb1 hS1 hl)
def CtR (l : Launch) (y : MethodName) (cc : ByteArray) (nL : Nat) (ret : Option FieldType) (d : Nat) (G : GT) (rg : RgT) (I : II) (L : LL) (av : List Value) (post : Nat → II → LL → Prop) : Prop := Met l y (wsOf y cc nL ret) (rmD d) (va_Pc av (preR G rg I L)) (QR G rg post) 0 0 (rg_A G rg)
theorem ctR_of {l : Launch} {y : MethodName} {cc : ByteArray} {nL : Nat} {ret : Option FieldType} {d : Nat} {G : GT} {rg : RgT} {I : II} {L : LL} {av : List Value} {post : Nat → II → LL → Prop} (lv : LV) (hlv : asl 0 lv = lv_args 0 av) (hlen : (lg_sl av).length ≤ nL) (hy : plainName y.cls = true)
    (body : ∀ (p : Program) (e : Env) (s : State) (m : MethodId) (args : Array Value) (below : List Frame) (meth : Method) (c : Code), Cx p s m args meth c cc nL y.cls G → meth.sig.returnType = ret → J p l e (rmD d) s m args below meth c (MQ below (QR G rg post) args s 0 0 (rg_A G rg)) nL G rg 0 0 I L 0 lv []) : CtR l y cc nL ret d G rg I L av post := by
  refine Met.ofW (cc := cc) (maxL := nL) (ret := ret) hy rfl ?_
  intro p e s m args below meth c s₁ B hml hv
  obtain ⟨rfl, hP, hK, hNW⟩ := hv
  have hts : ∀ w ∈ wsOf y cc nL ret, w.before av.toArray s = true := atoms_spec (ws := wsOf y cc nL ret) B.pre
  have hown : s.vm.findClass y.cls = some m.cls := findClass_of_methodNamed B.named
  have hl := lv_entry av (n := nL) hlen
  rw [lg_entry_eq]
  refine body p e s m _ below meth c ⟨B.exec, B.bytes, hml, hown, fun w hw => hts w (List.mem_cons_of_mem _ hw), hK, B.notSynchronized, hNW⟩ B.returns s.heap [] _ hP va_S.rf ?_
  rw [hlv]
  exact hl
theorem j_cvR {p : Program} {l : Launch} {e : Env} {R : Room} {s : State} {m : MethodId} {args : Array Value} {below : List Frame} {meth : Method} {c : Code} {Q : State → Prop} {cc : ByteArray} {nL : Nat} {own : String} {G : GT} {rg : RgT} {kc ks : Nat} {I : II} {L : LL} {pc : Nat} {lv : LV} {st rest As : List Value} {idx ci n d o : Nat} {y : MethodName} {cb : ByteArray} {nb : Nat} {ret : Option FieldType} {h : ShT} {post : Nat → II → LL → Prop} (C : Cx p s m args meth c cc nL own G) (vc : VC own idx ci y cb nb ret n) (hM : CtR l y cb nb ret d G rg I L (.ref (gB G + o) :: As) post) (hR : d + 1 ≤ R.frames ∧ 34 * d + 34 ≤ R.locals) (ho : o < rg.1) (hs : rg.2 o = h) (hc : h.1 = ci + 6) (hn : As.length = n) (hst : st = As.reverse ++ .ref (gB G + o) :: rest) (hW : (rest.map fun v => v.category).sum ≤ 8) (hr : kc ≤ R.cells ∧ ks ≤ R.slots) (dd : decode cc pc = .ok (.invokevirtual idx, 3)) (kk : ∀ (r : Nat) (I1 : II) (L1 : LL), post r I1 L1 → J p l e R s m args below meth c Q nL G rg kc ks I1 L1 (pc + 3) lv (.ref (gB G + r) :: rest)) : J p l e R s m args below meth c Q nL G rg kc ks I L pc lv st := by
  intro H locs ls hP hS hl
  obtain ⟨hx, hb, hml, hown, hts, hK, hlk, hNW⟩ := C
  obtain ⟨T, N, h1, h2, h3, h4, h5, h6, h7, h8⟩ := vc
  have he := rg_at (G := G) (I := I) (L := L) ho
  rw [rg_obj hs hc] at he
  have hrec := va_recv hK hP h1 he
  have hpre : PreV s H y.cls (gB G + o) (va_Pc (.ref (gB G + o) :: As) (preR G rg I L)) As := ⟨preR_blind, hrec, fun U hU hW => ⟨rfl, by rw [hU]; exact hP, va_K.moved hW.alike hK, hNW.warm hW⟩⟩
  have hroom : (rmD d).frames + 1 ≤ R.frames ∧ 8 + (nb + 11) + (rmD d).locals ≤ R.locals := ⟨hR.1, by show 8 + (nb + 11) + 34 * d ≤ R.locals; omega⟩
  have hin : (Cond.instanceMethod y).before args s = true := hts _ h5
  have hse : (Cond.selects y.cls y y).before args s = true := hts _ h6
  have hA0 : ∀ q, q < H.size → rg_A G rg q → rg_A G rg q := fun _ _ z => z
  have hA1 : ∀ q, rg_A G rg q → rg_A G rg q := fun _ z => z
  rcases h8 with h8 | ⟨host, h8⟩
  · exact va_callr (va_runV (As := As) (rest := rest) ⟨hx, hb, hml, hown, hts⟩ hM ⟨callB_of n hts (tbl_in h4) rfl rfl rfl (hts _ h7) (hts _ h8) h2 hroom, hin, hse⟩ hpre rfl hn hl.1 hst (lv_room hW) dd hr) hS hA0 hA1 (fun u a t H1 locs1 ht hvm hp hb _ _ hS1 => by obtain ⟨r, I1, L1⟩ := u; obtain ⟨ha, hb1, hb2, hb3⟩ := hb; subst ha; rw [ht] at hb1; exact kk r I1 L1 hp H1 locs1 ls hb1 hS1 hl)
  · exact va_callr (va_runVN (As := As) (rest := rest) (host := host) ⟨hx, hb, hml, hown, hts⟩ hM ⟨va_cnB n hts (tbl_in h4) rfl rfl rfl (hNW _ h8) (hts _ h7) h2 hroom, hin, hse⟩ hpre rfl hn hl.1 hst (lv_room hW) dd hr) hS hA0 hA1 (fun u a t H1 locs1 ht hvm hp hb _ _ hS1 => by obtain ⟨r, I1, L1⟩ := u; obtain ⟨ha, hb1, hb2, hb3⟩ := hb; subst ha; rw [ht] at hb1; exact kk r I1 L1 hp H1 locs1 ls hb1 hS1 hl)
theorem j_csR {p : Program} {l : Launch} {e : Env} {R : Room} {s : State} {m : MethodId} {args : Array Value} {below : List Frame} {meth : Method} {c : Code} {Q : State → Prop} {cc : ByteArray} {nL : Nat} {own : String} {G : GT} {rg : RgT} {kc ks : Nat} {I : II} {L : LL} {pc : Nat} {lv : LV} {st rest As : List Value} {idx n d : Nat} {y : MethodName} {cb : ByteArray} {nb : Nat} {ret : Option FieldType} {post : Nat → II → LL → Prop} (C : Cx p s m args meth c cc nL own G) (vc : SC own idx y cb nb ret n) (hM : CtR l y cb nb ret d G rg I L As post) (hR : d + 1 ≤ R.frames ∧ 34 * d + 34 ≤ R.locals) (hn : As.length = n) (hst : st = As.reverse ++ rest) (hW : (rest.map fun v => v.category).sum ≤ 8) (hr : kc ≤ R.cells ∧ ks ≤ R.slots) (dd : decode cc pc = .ok (.invokestatic idx, 3)) (kk : ∀ (r : Nat) (I1 : II) (L1 : LL), post r I1 L1 → J p l e R s m args below meth c Q nL G rg kc ks I1 L1 (pc + 3) lv (.ref (gB G + r) :: rest)) : J p l e R s m args below meth c Q nL G rg kc ks I L pc lv st := by
  intro H locs ls hP hS hl
  obtain ⟨hx, hb, hml, hown, hts, hK, hlk, hNW⟩ := C
  obtain ⟨h2, h3, h4, h5, h7, h8⟩ := vc
  have hpre : PreS s H (va_Pc As (preR G rg I L)) As := ⟨preR_blind, fun U hU hW => ⟨rfl, by rw [hU]; exact hP, va_K.moved hW.alike hK, hNW.warm hW⟩⟩
  have hroom : (rmD d).frames + 1 ≤ R.frames ∧ 8 + (nb + 11) + (rmD d).locals ≤ R.locals := ⟨hR.1, by show 8 + (nb + 11) + 34 * d ≤ R.locals; omega⟩
  have hin : (Cond.static y).before args s = true := hts _ h5
  have hA0 : ∀ q, q < H.size → rg_A G rg q → rg_A G rg q := fun _ _ z => z
  have hA1 : ∀ q, rg_A G rg q → rg_A G rg q := fun _ z => z
  rcases h8 with h8 | ⟨host, h8⟩
  · exact va_callr (va_runS (As := As) (rest := rest) ⟨hx, hb, hml, hown, hts⟩ hM ⟨callB_of n hts (tbl_in h4) rfl rfl rfl (hts _ h7) (hts _ h8) h2 hroom, hin⟩ hpre rfl hn hl.1 hst (lv_room hW) dd hr) hS hA0 hA1 (fun u a t H1 locs1 ht hvm hp hb _ _ hS1 => by obtain ⟨r, I1, L1⟩ := u; obtain ⟨ha, hb1, hb2, hb3⟩ := hb; subst ha; rw [ht] at hb1; exact kk r I1 L1 hp H1 locs1 ls hb1 hS1 hl)
  · exact va_callr (va_runSN (As := As) (rest := rest) (host := host) ⟨hx, hb, hml, hown, hts⟩ hM ⟨va_cnB n hts (tbl_in h4) rfl rfl rfl (hNW _ h8) (hts _ h7) h2 hroom, hin, trivial⟩ hpre rfl hn hl.1 hst (lv_room hW) dd hr) hS hA0 hA1 (fun u a t H1 locs1 ht hvm hp hb _ _ hS1 => by obtain ⟨r, I1, L1⟩ := u; obtain ⟨ha, hb1, hb2, hb3⟩ := hb; subst ha; rw [ht] at hb1; exact kk r I1 L1 hp H1 locs1 ls hb1 hS1 hl)
theorem j_iret {p : Program} {l : Launch} {e : Env} {R : Room} {s : State} {m : MethodId} {args : Array Value} {below : List Frame} {meth : Method} {c : Code} {cc : ByteArray} {nL : Nat} {own : String} {G : GT} {rg : RgT} {kc ks : Nat} {I : II} {L : LL} {pc : Nat} {lv : LV} {post : Int32 → II → LL → Prop} {v : Int32} (C : Cx p s m args meth c cc nL own G) (hr : meth.sig.returnType = some .int) (d : decode cc pc = .ok (.ireturn, 1)) (hp : post v I L) : J p l e R s m args below meth c (MQ below (QI G rg post) args s kc ks (rg_A G rg)) nL G rg kc ks I L pc lv [.int v] := fun H locs ls hP hS hl => W.iret C.1 C.2.1 hr (fun t ht hW => ⟨⟨v, (I, L), rfl, hp, by rw [ht]; exact hP, va_K.moved hW.alike C.2.2.2.2.2.1, NW.warm hW C.2.2.2.2.2.2.2⟩, hS.F ht⟩) hS.2.2 d C.2.2.2.2.2.2.1
theorem j_zret {p : Program} {l : Launch} {e : Env} {R : Room} {s : State} {m : MethodId} {args : Array Value} {below : List Frame} {meth : Method} {c : Code} {cc : ByteArray} {nL : Nat} {own : String} {G : GT} {rg : RgT} {kc ks : Nat} {I : II} {L : LL} {pc : Nat} {lv : LV} {post : Int32 → II → LL → Prop} {v : Int32} (C : Cx p s m args meth c cc nL own G) {ty : FieldType} (hr : meth.sig.returnType = some ty) (hn : narrow ty (.int v) = .int v) (d : decode cc pc = .ok (.ireturn, 1)) (hp : post v I L) : J p l e R s m args below meth c (MQ below (QI G rg post) args s kc ks (rg_A G rg)) nL G rg kc ks I L pc lv [.int v] := fun H locs ls hP hS hl => W.zret C.1 C.2.1 hr hn (fun t ht hW => ⟨⟨v, (I, L), rfl, hp, by rw [ht]; exact hP, va_K.moved hW.alike C.2.2.2.2.2.1, NW.warm hW C.2.2.2.2.2.2.2⟩, hS.F ht⟩) hS.2.2 d C.2.2.2.2.2.2.1
theorem j_lret {p : Program} {l : Launch} {e : Env} {R : Room} {s : State} {m : MethodId} {args : Array Value} {below : List Frame} {meth : Method} {c : Code} {cc : ByteArray} {nL : Nat} {own : String} {G : GT} {rg : RgT} {kc ks : Nat} {I : II} {L : LL} {pc : Nat} {lv : LV} {post : Int64 → II → LL → Prop} {v : Int64} (C : Cx p s m args meth c cc nL own G) (hr : meth.sig.returnType = some .long) (d : decode cc pc = .ok (.lreturn, 1)) (hp : post v I L) : J p l e R s m args below meth c (MQ below (QL G rg post) args s kc ks (rg_A G rg)) nL G rg kc ks I L pc lv [.long v] := fun H locs ls hP hS hl => W.lret C.1 C.2.1 hr (fun t ht hW => ⟨⟨v, (I, L), rfl, hp, by rw [ht]; exact hP, va_K.moved hW.alike C.2.2.2.2.2.1, NW.warm hW C.2.2.2.2.2.2.2⟩, hS.F ht⟩) hS.2.2 d C.2.2.2.2.2.2.1
theorem j_vret {p : Program} {l : Launch} {e : Env} {R : Room} {s : State} {m : MethodId} {args : Array Value} {below : List Frame} {meth : Method} {c : Code} {cc : ByteArray} {nL : Nat} {own : String} {G : GT} {rg : RgT} {kc ks : Nat} {I : II} {L : LL} {pc : Nat} {lv : LV} {post : II → LL → Prop}  (C : Cx p s m args meth c cc nL own G) (hr : meth.sig.returnType = none) (d : decode cc pc = .ok (.return_, 1)) (hp : post I L) : J p l e R s m args below meth c (MQ below (QV G rg post) args s kc ks (rg_A G rg)) nL G rg kc ks I L pc lv [] := fun H locs ls hP hS hl => W.vret C.1 C.2.1 hr (fun t ht hW => ⟨⟨(I, L), rfl, hp, by rw [ht]; exact hP, va_K.moved hW.alike C.2.2.2.2.2.1, NW.warm hW C.2.2.2.2.2.2.2⟩, hS.F ht⟩) hS.2.2 d C.2.2.2.2.2.2.1
theorem j_aret {p : Program} {l : Launch} {e : Env} {R : Room} {s : State} {m : MethodId} {args : Array Value} {below : List Frame} {meth : Method} {c : Code} {cc : ByteArray} {nL : Nat} {own : String} {G : GT} {rg : RgT} {kc ks : Nat} {I : II} {L : LL} {pc : Nat} {lv : LV} {post : Nat → II → LL → Prop} {v : Nat} {rt : FieldType} (C : Cx p s m args meth c cc nL own G) (hr : meth.sig.returnType = some rt) (hrt : (∃ n, rt = .object n) ∨ ∃ t, rt = .array t) (d : decode cc pc = .ok (.areturn, 1)) (hp : post v I L) : J p l e R s m args below meth c (MQ below (QR G rg post) args s kc ks (rg_A G rg)) nL G rg kc ks I L pc lv [.ref (gB G + v)] := fun H locs ls hP hS hl => W.aret C.1 C.2.1 hr hrt (Or.inr ⟨_, rfl⟩) (fun t ht hW => ⟨⟨(v, I, L), gB G + v, rfl, hp, rfl, by rw [ht]; exact hP, va_K.moved hW.alike C.2.2.2.2.2.1, NW.warm hW C.2.2.2.2.2.2.2⟩, hS.F ht⟩) hS.2.2 d C.2.2.2.2.2.2.1
theorem j_widen {p : Program} {l : Launch} {e : Env} {R : Room} {s : State} {m : MethodId} {args : Array Value} {below : List Frame} {meth : Method} {c : Code} {Q : State → Prop} {cc : ByteArray} {nL : Nat} {own : String} {G : GT} {rg : RgT} {kc ks : Nat} {I : II} {L : LL} {pc : Nat} {lv : LV} {st : List Value} {k1 k2 : Nat} (h1 : kc ≤ k1) (h2 : ks ≤ k2) (k : J p l e R s m args below meth c Q nL G rg k1 k2 I L pc lv st) : J p l e R s m args below meth c Q nL G rg kc ks I L pc lv st := fun H locs ls hP hS hl => W.widen h1 h2 (k H locs ls hP hS hl)
end
section
/-! ===== links: fields, calls, constants ===== -/
theorem mt {w : Cond} (i : Nat) (h : tables_1[i]? = some w) (hg : goodWord w = true) : w ∈ tblG := List.mem_filter.mpr ⟨List.mem_append_right _ (List.mem_of_getElem? h), hg⟩
theorem mp {w : Cond} (i : Nat) (h : (k2_sels lw_privs)[i]? = some w) (hg : goodWord w = true) : w ∈ tblG := List.mem_filter.mpr ⟨List.mem_append_left _ (List.mem_of_getElem? h), hg⟩
theorem mx {w : Cond} (i : Nat) (h : tables_1[i]? = some w) (hg : isXw w = true) : w ∈ xw := List.mem_filter.mpr ⟨List.mem_append_right _ (List.mem_of_getElem? h), hg⟩
theorem igX0 : ∀ w ∈ u_ws RX0 TX0 10, w ∈ tblG := fun w h => xx_ig w (by simp only [List.mem_append, show w ∈ wsX00 from h, true_or, or_true])
theorem igX1 : ∀ w ∈ u_ws RX1 TX1 1, w ∈ tblG := fun w h => xx_ig w (by simp only [List.mem_append, show w ∈ wsX10 from h, true_or, or_true])
theorem igX2 : ∀ w ∈ u_ws RX2 TX2 2, w ∈ tblG := fun w h => xx_ig w (by simp only [List.mem_append, show w ∈ wsX20 from h, true_or, or_true])
theorem igX3 : ∀ w ∈ u_ws RX3 TX3 2, w ∈ tblG := fun w h => xx_ig w (by simp only [List.mem_append, show w ∈ wsX30 from h, true_or, or_true])
theorem igX4 : ∀ w ∈ u_ws RX4 TX4 4, w ∈ tblG := fun w h => xx_ig w (by simp only [List.mem_append, show w ∈ wsX40 from h, true_or, or_true])
theorem igX5 : ∀ w ∈ u_ws RX5 TX5 3, w ∈ tblG := fun w h => xx_ig w (by simp only [List.mem_append, show w ∈ wsX50 from h, true_or, or_true])
theorem igX6 : ∀ w ∈ u_ws RX6 TX6 13, w ∈ tblG := fun w h => xx_ig w (by simp only [List.mem_append, show w ∈ wsX60 from h, true_or, or_true])
theorem igX7 : ∀ w ∈ u_ws RX7 TX7 45, w ∈ tblG := fun w h => xx_ig w (by simp only [List.mem_append, show w ∈ wsX70 from h, true_or, or_true])
theorem sc_X3_9 : SC RX3 9 yX6_rowOfFractions cX6_rowOfFractions 3 (some (FieldType.array (FieldType.object "SquareSums$Fraction"))) 1 := ⟨⟨by decide +kernel, by decide +kernel, by decide +kernel⟩, by decide, (mt 32 (by decide +kernel) rfl), (mt 31 (by decide +kernel) rfl), (mt 1 (by decide +kernel) rfl), (Or.inr ⟨"SquareSums", mx 30 (by decide +kernel) rfl⟩)⟩
theorem fl_X2_9 : FL RX2 9 2 0 := ⟨RX2, TX2, 2, rfl, by decide, igX2, rfl, (Or.inl (mt 40 (by decide +kernel) rfl))⟩
theorem fw_X2_9 : FW RX2 9 2 0 .long := ⟨RX2, TX2, 2, tyX2, rfl, by decide, igX2, rfl, (Or.inl (mt 40 (by decide +kernel) rfl)), tyX2_ok, nmX2, rfl, by decide +kernel⟩
theorem fl_X0_136 : FL RX0 136 2 0 := ⟨RX2, TX2, 2, rfl, by decide, igX2, rfl, (Or.inr ⟨"SquareSums", mx 41 (by decide +kernel) rfl⟩)⟩
theorem fw_X0_136 : FW RX0 136 2 0 .long := ⟨RX2, TX2, 2, tyX2, rfl, by decide, igX2, rfl, (Or.inr ⟨"SquareSums", mx 41 (by decide +kernel) rfl⟩), tyX2_ok, nmX2, rfl, by decide +kernel⟩
theorem fl_X6_166 : FL RX6 166 2 0 := ⟨RX2, TX2, 2, rfl, by decide, igX2, rfl, (Or.inr ⟨"SquareSums", mx 42 (by decide +kernel) rfl⟩)⟩
theorem fw_X6_166 : FW RX6 166 2 0 .long := ⟨RX2, TX2, 2, tyX2, rfl, by decide, igX2, rfl, (Or.inr ⟨"SquareSums", mx 42 (by decide +kernel) rfl⟩), tyX2_ok, nmX2, rfl, by decide +kernel⟩
theorem fl_X2_15 : FL RX2 15 2 1 := ⟨RX2, TX2, 2, rfl, by decide, igX2, rfl, (Or.inl (mt 43 (by decide +kernel) rfl))⟩
theorem fw_X2_15 : FW RX2 15 2 1 .long := ⟨RX2, TX2, 2, tyX2, rfl, by decide, igX2, rfl, (Or.inl (mt 43 (by decide +kernel) rfl)), tyX2_ok, nmX2, rfl, by decide +kernel⟩
theorem fl_X0_140 : FL RX0 140 2 1 := ⟨RX2, TX2, 2, rfl, by decide, igX2, rfl, (Or.inr ⟨"SquareSums", mx 44 (by decide +kernel) rfl⟩)⟩
theorem fw_X0_140 : FW RX0 140 2 1 .long := ⟨RX2, TX2, 2, tyX2, rfl, by decide, igX2, rfl, (Or.inr ⟨"SquareSums", mx 44 (by decide +kernel) rfl⟩), tyX2_ok, nmX2, rfl, by decide +kernel⟩
theorem fl_X6_170 : FL RX6 170 2 1 := ⟨RX2, TX2, 2, rfl, by decide, igX2, rfl, (Or.inr ⟨"SquareSums", mx 45 (by decide +kernel) rfl⟩)⟩
theorem fw_X6_170 : FW RX6 170 2 1 .long := ⟨RX2, TX2, 2, tyX2, rfl, by decide, igX2, rfl, (Or.inr ⟨"SquareSums", mx 45 (by decide +kernel) rfl⟩), tyX2_ok, nmX2, rfl, by decide +kernel⟩
theorem fl_X3_13 : FL RX3 13 3 0 := ⟨RX3, TX3, 2, rfl, by decide, igX3, rfl, (Or.inl (mt 55 (by decide +kernel) rfl))⟩
theorem fl_X3_22 : FL RX3 22 3 1 := ⟨RX3, TX3, 2, rfl, by decide, igX3, rfl, (Or.inl (mt 56 (by decide +kernel) rfl))⟩
theorem sc_X0_28 : SC RX0 28 yX6_rowOfFractions cX6_rowOfFractions 3 (some (FieldType.array (FieldType.object "SquareSums$Fraction"))) 1 := ⟨⟨by decide +kernel, by decide +kernel, by decide +kernel⟩, by decide, (mt 32 (by decide +kernel) rfl), (mt 31 (by decide +kernel) rfl), (mt 1 (by decide +kernel) rfl), (Or.inr ⟨"SquareSums", mx 72 (by decide +kernel) rfl⟩)⟩
theorem sc_X5_18 : SC RX5 18 yX6_rowOfFractions cX6_rowOfFractions 3 (some (FieldType.array (FieldType.object "SquareSums$Fraction"))) 1 := ⟨⟨by decide +kernel, by decide +kernel, by decide +kernel⟩, by decide, (mt 32 (by decide +kernel) rfl), (mt 31 (by decide +kernel) rfl), (mt 1 (by decide +kernel) rfl), (Or.inr ⟨"SquareSums", mx 82 (by decide +kernel) rfl⟩)⟩
theorem fl_X5_12 : FL RX5 12 5 0 := ⟨RX5, TX5, 3, rfl, by decide, igX5, rfl, (Or.inl (mt 83 (by decide +kernel) rfl))⟩
theorem fl_X6_150 : FL RX6 150 5 0 := ⟨RX5, TX5, 3, rfl, by decide, igX5, rfl, (Or.inr ⟨"SquareSums", mx 84 (by decide +kernel) rfl⟩)⟩
theorem fl_X5_22 : FL RX5 22 5 1 := ⟨RX5, TX5, 3, rfl, by decide, igX5, rfl, (Or.inl (mt 85 (by decide +kernel) rfl))⟩
theorem fl_X0_114 : FL RX0 114 5 1 := ⟨RX5, TX5, 3, rfl, by decide, igX5, rfl, (Or.inr ⟨"SquareSums", mx 86 (by decide +kernel) rfl⟩)⟩
theorem fl_X6_159 : FL RX6 159 5 1 := ⟨RX5, TX5, 3, rfl, by decide, igX5, rfl, (Or.inr ⟨"SquareSums", mx 87 (by decide +kernel) rfl⟩)⟩
theorem fl_X5_26 : FL RX5 26 5 2 := ⟨RX5, TX5, 3, rfl, by decide, igX5, rfl, (Or.inl (mt 88 (by decide +kernel) rfl))⟩
theorem fw_X5_26 : FW RX5 26 5 2 .int := ⟨RX5, TX5, 3, tyX5, rfl, by decide, igX5, rfl, (Or.inl (mt 88 (by decide +kernel) rfl)), tyX5_ok, nmX5, rfl, by decide +kernel⟩
theorem fl_X0_133 : FL RX0 133 5 2 := ⟨RX5, TX5, 3, rfl, by decide, igX5, rfl, (Or.inr ⟨"SquareSums", mx 89 (by decide +kernel) rfl⟩)⟩
theorem fw_X0_133 : FW RX0 133 5 2 .int := ⟨RX5, TX5, 3, tyX5, rfl, by decide, igX5, rfl, (Or.inr ⟨"SquareSums", mx 89 (by decide +kernel) rfl⟩), tyX5_ok, nmX5, rfl, by decide +kernel⟩
theorem fl_X0_12 : FL RX0 12 0 0 := ⟨RX0, TX0, 10, rfl, by decide, igX0, rfl, (Or.inl (mt 98 (by decide +kernel) rfl))⟩
theorem fl_X0_18 : FL RX0 18 0 1 := ⟨RX0, TX0, 10, rfl, by decide, igX0, rfl, (Or.inl (mt 99 (by decide +kernel) rfl))⟩
theorem fl_X6_197 : FL RX6 197 0 1 := ⟨RX0, TX0, 10, rfl, by decide, igX0, rfl, (Or.inr ⟨"SquareSums", mx 100 (by decide +kernel) rfl⟩)⟩
theorem fl_X0_24 : FL RX0 24 0 2 := ⟨RX0, TX0, 10, rfl, by decide, igX0, rfl, (Or.inl (mt 101 (by decide +kernel) rfl))⟩
theorem fl_X6_146 : FL RX6 146 0 2 := ⟨RX0, TX0, 10, rfl, by decide, igX0, rfl, (Or.inr ⟨"SquareSums", mx 102 (by decide +kernel) rfl⟩)⟩
theorem fl_X0_32 : FL RX0 32 0 3 := ⟨RX0, TX0, 10, rfl, by decide, igX0, rfl, (Or.inl (mt 103 (by decide +kernel) rfl))⟩
theorem fl_X6_204 : FL RX6 204 0 3 := ⟨RX0, TX0, 10, rfl, by decide, igX0, rfl, (Or.inr ⟨"SquareSums", mx 104 (by decide +kernel) rfl⟩)⟩
theorem fl_X0_39 : FL RX0 39 0 4 := ⟨RX0, TX0, 10, rfl, by decide, igX0, rfl, (Or.inl (mt 105 (by decide +kernel) rfl))⟩
theorem fl_X0_43 : FL RX0 43 0 5 := ⟨RX0, TX0, 10, rfl, by decide, igX0, rfl, (Or.inl (mt 106 (by decide +kernel) rfl))⟩
theorem fl_X0_46 : FL RX0 46 0 6 := ⟨RX0, TX0, 10, rfl, by decide, igX0, rfl, (Or.inl (mt 107 (by decide +kernel) rfl))⟩
theorem fw_X0_46 : FW RX0 46 0 6 .int := ⟨RX0, TX0, 10, tyX0, rfl, by decide, igX0, rfl, (Or.inl (mt 107 (by decide +kernel) rfl)), tyX0_ok, nmX0, rfl, by decide +kernel⟩
theorem fl_X0_50 : FL RX0 50 0 7 := ⟨RX0, TX0, 10, rfl, by decide, igX0, rfl, (Or.inl (mt 108 (by decide +kernel) rfl))⟩
theorem fw_X0_50 : FW RX0 50 0 7 .int := ⟨RX0, TX0, 10, tyX0, rfl, by decide, igX0, rfl, (Or.inl (mt 108 (by decide +kernel) rfl)), tyX0_ok, nmX0, rfl, by decide +kernel⟩
theorem fl_X6_213 : FL RX6 213 0 7 := ⟨RX0, TX0, 10, rfl, by decide, igX0, rfl, (Or.inr ⟨"SquareSums", mx 109 (by decide +kernel) rfl⟩)⟩
theorem fw_X6_213 : FW RX6 213 0 7 .int := ⟨RX0, TX0, 10, tyX0, rfl, by decide, igX0, rfl, (Or.inr ⟨"SquareSums", mx 109 (by decide +kernel) rfl⟩), tyX0_ok, nmX0, rfl, by decide +kernel⟩
theorem fl_X0_53 : FL RX0 53 0 8 := ⟨RX0, TX0, 10, rfl, by decide, igX0, rfl, (Or.inl (mt 110 (by decide +kernel) rfl))⟩
theorem fw_X0_53 : FW RX0 53 0 8 .int := ⟨RX0, TX0, 10, tyX0, rfl, by decide, igX0, rfl, (Or.inl (mt 110 (by decide +kernel) rfl)), tyX0_ok, nmX0, rfl, by decide +kernel⟩
theorem fl_X0_56 : FL RX0 56 0 9 := ⟨RX0, TX0, 10, rfl, by decide, igX0, rfl, (Or.inl (mt 111 (by decide +kernel) rfl))⟩
theorem fw_X0_56 : FW RX0 56 0 9 .int := ⟨RX0, TX0, 10, tyX0, rfl, by decide, igX0, rfl, (Or.inl (mt 111 (by decide +kernel) rfl)), tyX0_ok, nmX0, rfl, by decide +kernel⟩
theorem sc_X4_9 : SC RX4 9 yX6_rowOfFractions cX6_rowOfFractions 3 (some (FieldType.array (FieldType.object "SquareSums$Fraction"))) 1 := ⟨⟨by decide +kernel, by decide +kernel, by decide +kernel⟩, by decide, (mt 32 (by decide +kernel) rfl), (mt 31 (by decide +kernel) rfl), (mt 1 (by decide +kernel) rfl), (Or.inr ⟨"SquareSums", mx 139 (by decide +kernel) rfl⟩)⟩
theorem vc_X4_33 : VC RX4 33 2 yX2_put cX2_put 7 (some FieldType.boolean) 2 := ⟨TX2, 2, rfl, ⟨by decide +kernel, by decide +kernel, by decide +kernel⟩, by decide, (mt 145 (by decide +kernel) rfl), (mt 143 (by decide +kernel) rfl), (mt 144 (by decide +kernel) rfl), (mt 3 (by decide +kernel) rfl), (Or.inl (mt 142 (by decide +kernel) rfl))⟩
theorem kc_X2_18 : Cond.constantLong RX2 18 (-9223372036854775808) ∈ tblG := mt 146 (by decide +kernel) rfl
theorem sc_X2_20 : SC RX2 20 yX2_commonDivisor cX2_commonDivisor 11 (some FieldType.long) 2 := ⟨⟨by decide +kernel, by decide +kernel, by decide +kernel⟩, by decide, (mt 149 (by decide +kernel) rfl), (mt 148 (by decide +kernel) rfl), (mt 3 (by decide +kernel) rfl), (Or.inl (mt 147 (by decide +kernel) rfl))⟩
theorem fl_X4_13 : FL RX4 13 4 0 := ⟨RX4, TX4, 4, rfl, by decide, igX4, rfl, (Or.inl (mt 150 (by decide +kernel) rfl))⟩
theorem fl_X6_163 : FL RX6 163 4 0 := ⟨RX4, TX4, 4, rfl, by decide, igX4, rfl, (Or.inr ⟨"SquareSums", mx 151 (by decide +kernel) rfl⟩)⟩
theorem fl_X4_22 : FL RX4 22 4 1 := ⟨RX4, TX4, 4, rfl, by decide, igX4, rfl, (Or.inl (mt 152 (by decide +kernel) rfl))⟩
theorem fl_X4_26 : FL RX4 26 4 2 := ⟨RX4, TX4, 4, rfl, by decide, igX4, rfl, (Or.inl (mt 153 (by decide +kernel) rfl))⟩
theorem fl_X4_29 : FL RX4 29 4 3 := ⟨RX4, TX4, 4, rfl, by decide, igX4, rfl, (Or.inl (mt 154 (by decide +kernel) rfl))⟩
theorem fw_X4_29 : FW RX4 29 4 3 .boolean := ⟨RX4, TX4, 4, tyX4, rfl, by decide, igX4, rfl, (Or.inl (mt 154 (by decide +kernel) rfl)), tyX4_ok, nmX4, rfl, by decide +kernel⟩
theorem fl_X6_77 : FL RX6 77 4 3 := ⟨RX4, TX4, 4, rfl, by decide, igX4, rfl, (Or.inr ⟨"SquareSums", mx 155 (by decide +kernel) rfl⟩)⟩
theorem fw_X6_77 : FW RX6 77 4 3 .boolean := ⟨RX4, TX4, 4, tyX4, rfl, by decide, igX4, rfl, (Or.inr ⟨"SquareSums", mx 155 (by decide +kernel) rfl⟩), tyX4_ok, nmX4, rfl, by decide +kernel⟩
theorem fl_X1_9 : FL RX1 9 1 0 := ⟨RX1, TX1, 1, rfl, by decide, igX1, rfl, (Or.inl (mt 170 (by decide +kernel) rfl))⟩
theorem fl_X6_11 : FL RX6 11 6 0 := ⟨RX6, TX6, 13, rfl, by decide, igX6, rfl, (Or.inl (mt 174 (by decide +kernel) rfl))⟩
theorem fl_X6_15 : FL RX6 15 6 1 := ⟨RX6, TX6, 13, rfl, by decide, igX6, rfl, (Or.inl (mt 175 (by decide +kernel) rfl))⟩
theorem fl_X6_19 : FL RX6 19 6 2 := ⟨RX6, TX6, 13, rfl, by decide, igX6, rfl, (Or.inl (mt 176 (by decide +kernel) rfl))⟩
theorem fl_X6_26 : FL RX6 26 6 3 := ⟨RX6, TX6, 13, rfl, by decide, igX6, rfl, (Or.inl (mt 177 (by decide +kernel) rfl))⟩
theorem fl_X6_33 : FL RX6 33 6 4 := ⟨RX6, TX6, 13, rfl, by decide, igX6, rfl, (Or.inl (mt 178 (by decide +kernel) rfl))⟩
theorem fl_X6_37 : FL RX6 37 6 5 := ⟨RX6, TX6, 13, rfl, by decide, igX6, rfl, (Or.inl (mt 179 (by decide +kernel) rfl))⟩
theorem fl_X6_43 : FL RX6 43 6 6 := ⟨RX6, TX6, 13, rfl, by decide, igX6, rfl, (Or.inl (mt 180 (by decide +kernel) rfl))⟩
theorem fl_X6_50 : FL RX6 50 6 7 := ⟨RX6, TX6, 13, rfl, by decide, igX6, rfl, (Or.inl (mt 181 (by decide +kernel) rfl))⟩
theorem fl_X6_54 : FL RX6 54 6 8 := ⟨RX6, TX6, 13, rfl, by decide, igX6, rfl, (Or.inl (mt 182 (by decide +kernel) rfl))⟩
theorem fl_X6_57 : FL RX6 57 6 9 := ⟨RX6, TX6, 13, rfl, by decide, igX6, rfl, (Or.inl (mt 183 (by decide +kernel) rfl))⟩
theorem fl_X6_60 : FL RX6 60 6 10 := ⟨RX6, TX6, 13, rfl, by decide, igX6, rfl, (Or.inl (mt 184 (by decide +kernel) rfl))⟩
theorem fw_X6_60 : FW RX6 60 6 10 .int := ⟨RX6, TX6, 13, tyX6, rfl, by decide, igX6, rfl, (Or.inl (mt 184 (by decide +kernel) rfl)), tyX6_ok, nmX6, rfl, by decide +kernel⟩
theorem fl_X6_64 : FL RX6 64 6 11 := ⟨RX6, TX6, 13, rfl, by decide, igX6, rfl, (Or.inl (mt 185 (by decide +kernel) rfl))⟩
theorem fw_X6_64 : FW RX6 64 6 11 .int := ⟨RX6, TX6, 13, tyX6, rfl, by decide, igX6, rfl, (Or.inl (mt 185 (by decide +kernel) rfl)), tyX6_ok, nmX6, rfl, by decide +kernel⟩
theorem fl_X6_67 : FL RX6 67 6 12 := ⟨RX6, TX6, 13, rfl, by decide, igX6, rfl, (Or.inl (mt 186 (by decide +kernel) rfl))⟩
theorem fw_X6_67 : FW RX6 67 6 12 .int := ⟨RX6, TX6, 13, tyX6, rfl, by decide, igX6, rfl, (Or.inl (mt 186 (by decide +kernel) rfl)), tyX6_ok, nmX6, rfl, by decide +kernel⟩
theorem vc_L_13 : VC RL 13 6 yX6_variables cX6_variables 3 (some FieldType.int) 1 := ⟨TX6, 13, rfl, ⟨by decide +kernel, by decide +kernel, by decide +kernel⟩, by decide, (mt 217 (by decide +kernel) rfl), (mt 215 (by decide +kernel) rfl), (mt 216 (by decide +kernel) rfl), (mt 1 (by decide +kernel) rfl), (Or.inl (mt 214 (by decide +kernel) rfl))⟩
theorem sc_X6_71 : SC RX6 71 yJ7_fill_53178 cJ7_fill_53178 4 none 2 := ⟨⟨by decide +kernel, by decide +kernel, by decide +kernel⟩, by decide, (mt 220 (by decide +kernel) rfl), (mt 219 (by decide +kernel) rfl), (mt 9 (by decide +kernel) rfl), (Or.inl (mt 218 (by decide +kernel) rfl))⟩
theorem vc_L_18 : VC RL 18 6 yX6_form cX6_form 1 (some FieldType.int) 0 := ⟨TX6, 13, rfl, ⟨by decide +kernel, by decide +kernel, by decide +kernel⟩, by decide, (mt 224 (by decide +kernel) rfl), (mt 222 (by decide +kernel) rfl), (mt 223 (by decide +kernel) rfl), (mt 1 (by decide +kernel) rfl), (Or.inl (mt 221 (by decide +kernel) rfl))⟩
theorem vc_X6_81 : VC RX6 81 1 yX1_clear cX1_clear 1 none 0 := ⟨TX1, 1, rfl, ⟨by decide +kernel, by decide +kernel, by decide +kernel⟩, by decide, (mt 228 (by decide +kernel) rfl), (mt 226 (by decide +kernel) rfl), (mt 227 (by decide +kernel) rfl), (mt 7 (by decide +kernel) rfl), (Or.inl (mt 225 (by decide +kernel) rfl))⟩
theorem sc_X1_15 : SC RX1 15 yJ7_fill_53178 cJ7_fill_53178 4 none 2 := ⟨⟨by decide +kernel, by decide +kernel, by decide +kernel⟩, by decide, (mt 220 (by decide +kernel) rfl), (mt 219 (by decide +kernel) rfl), (mt 9 (by decide +kernel) rfl), (Or.inl (mt 229 (by decide +kernel) rfl))⟩
theorem vc_L_23 : VC RL 23 6 yX6_term cX6_term 5 (some FieldType.int) 4 := ⟨TX6, 13, rfl, ⟨by decide +kernel, by decide +kernel, by decide +kernel⟩, by decide, (mt 233 (by decide +kernel) rfl), (mt 231 (by decide +kernel) rfl), (mt 232 (by decide +kernel) rfl), (mt 1 (by decide +kernel) rfl), (Or.inl (mt 230 (by decide +kernel) rfl))⟩
theorem vc_X6_84 : VC RX6 84 6 yX6_isForm cX6_isForm 2 (some FieldType.boolean) 1 := ⟨TX6, 13, rfl, ⟨by decide +kernel, by decide +kernel, by decide +kernel⟩, by decide, (mt 237 (by decide +kernel) rfl), (mt 236 (by decide +kernel) rfl), (mp 0 (by decide +kernel) rfl), (mt 1 (by decide +kernel) rfl), (Or.inl (mt 234 (by decide +kernel) rfl))⟩
theorem vc_X6_88 : VC RX6 88 6 yX6_isIndex cX6_isIndex 2 (some FieldType.boolean) 1 := ⟨TX6, 13, rfl, ⟨by decide +kernel, by decide +kernel, by decide +kernel⟩, by decide, (mt 241 (by decide +kernel) rfl), (mt 240 (by decide +kernel) rfl), (mp 1 (by decide +kernel) rfl), (mt 1 (by decide +kernel) rfl), (Or.inl (mt 238 (by decide +kernel) rfl))⟩
theorem kc_X6_91 : Cond.constant RX6 91 (-2000000) ∈ tblG := mt 242 (by decide +kernel) rfl
theorem kc_X6_92 : Cond.constant RX6 92 (-1000000) ∈ tblG := mt 243 (by decide +kernel) rfl
theorem kc_X6_93 : Cond.constant RX6 93 (1000000) ∈ tblG := mt 244 (by decide +kernel) rfl
theorem vc_X6_94 : VC RX6 94 1 yX1_replace cX1_replace 5 (some FieldType.int) 3 := ⟨TX1, 1, rfl, ⟨by decide +kernel, by decide +kernel, by decide +kernel⟩, by decide, (mt 248 (by decide +kernel) rfl), (mt 246 (by decide +kernel) rfl), (mt 247 (by decide +kernel) rfl), (mt 7 (by decide +kernel) rfl), (Or.inl (mt 245 (by decide +kernel) rfl))⟩
theorem vc_X1_30 : VC RX1 30 1 yX1_number cX1_number 3 (some FieldType.int) 2 := ⟨TX1, 1, rfl, ⟨by decide +kernel, by decide +kernel, by decide +kernel⟩, by decide, (mt 252 (by decide +kernel) rfl), (mt 250 (by decide +kernel) rfl), (mt 251 (by decide +kernel) rfl), (mt 7 (by decide +kernel) rfl), (Or.inl (mt 249 (by decide +kernel) rfl))⟩
theorem sc_X1_21 : SC RX1 21 yJ9_min_7cf53 cJ9_min_7cf53 2 (some FieldType.int) 2 := ⟨⟨by decide +kernel, by decide +kernel, by decide +kernel⟩, by decide, (mt 255 (by decide +kernel) rfl), (mt 254 (by decide +kernel) rfl), (mt 10 (by decide +kernel) rfl), (Or.inl (mt 253 (by decide +kernel) rfl))⟩
theorem sc_X1_27 : SC RX1 27 yJ9_max_7cf53 cJ9_max_7cf53 2 (some FieldType.int) 2 := ⟨⟨by decide +kernel, by decide +kernel, by decide +kernel⟩, by decide, (mt 258 (by decide +kernel) rfl), (mt 257 (by decide +kernel) rfl), (mt 10 (by decide +kernel) rfl), (Or.inl (mt 256 (by decide +kernel) rfl))⟩
theorem vc_L_28 : VC RL 28 6 yX6_value cX6_value 7 (some FieldType.long) 5 := ⟨TX6, 13, rfl, ⟨by decide +kernel, by decide +kernel, by decide +kernel⟩, by decide, (mt 262 (by decide +kernel) rfl), (mt 260 (by decide +kernel) rfl), (mt 261 (by decide +kernel) rfl), (mt 1 (by decide +kernel) rfl), (Or.inl (mt 259 (by decide +kernel) rfl))⟩
theorem kc_X6_98 : Cond.constantLong RX6 98 (-1) ∈ tblG := mt 263 (by decide +kernel) rfl
theorem kc_X6_100 : Cond.constantLong RX6 100 (-1000) ∈ tblG := mt 264 (by decide +kernel) rfl
theorem kc_X6_102 : Cond.constantLong RX6 102 (1000) ∈ tblG := mt 265 (by decide +kernel) rfl
theorem vc_X6_104 : VC RX6 104 1 yX1_atWhole cX1_atWhole 9 (some FieldType.long) 2 := ⟨TX1, 1, rfl, ⟨by decide +kernel, by decide +kernel, by decide +kernel⟩, by decide, (mt 269 (by decide +kernel) rfl), (mt 267 (by decide +kernel) rfl), (mt 268 (by decide +kernel) rfl), (mt 7 (by decide +kernel) rfl), (Or.inl (mt 266 (by decide +kernel) rfl))⟩
theorem vc_L_33 : VC RL 33 6 yX6_plain cX6_plain 2 (some FieldType.int) 1 := ⟨TX6, 13, rfl, ⟨by decide +kernel, by decide +kernel, by decide +kernel⟩, by decide, (mt 273 (by decide +kernel) rfl), (mt 271 (by decide +kernel) rfl), (mt 272 (by decide +kernel) rfl), (mt 1 (by decide +kernel) rfl), (Or.inl (mt 270 (by decide +kernel) rfl))⟩
theorem vc_X6_108 : VC RX6 108 0 yX0_runWithoutLooking cX0_runWithoutLooking 7 (some FieldType.int) 2 := ⟨TX0, 10, rfl, ⟨by decide +kernel, by decide +kernel, by decide +kernel⟩, by decide, (mt 277 (by decide +kernel) rfl), (mt 275 (by decide +kernel) rfl), (mt 276 (by decide +kernel) rfl), (mt 4 (by decide +kernel) rfl), (Or.inl (mt 274 (by decide +kernel) rfl))⟩
theorem vc_X0_83 : VC RX0 83 3 yX3_take cX3_take 5 none 2 := ⟨TX3, 2, rfl, ⟨by decide +kernel, by decide +kernel, by decide +kernel⟩, by decide, (mt 281 (by decide +kernel) rfl), (mt 279 (by decide +kernel) rfl), (mt 280 (by decide +kernel) rfl), (mt 2 (by decide +kernel) rfl), (Or.inl (mt 278 (by decide +kernel) rfl))⟩
theorem vc_X3_26 : VC RX3 26 3 yX3_at cX3_at 3 (some (FieldType.object "SquareSums$Fraction")) 2 := ⟨TX3, 2, rfl, ⟨by decide +kernel, by decide +kernel, by decide +kernel⟩, by decide, (mt 285 (by decide +kernel) rfl), (mt 283 (by decide +kernel) rfl), (mt 284 (by decide +kernel) rfl), (mt 2 (by decide +kernel) rfl), (Or.inl (mt 282 (by decide +kernel) rfl))⟩
theorem vc_X3_30 : VC RX3 30 1 yX1_number cX1_number 3 (some FieldType.int) 2 := ⟨TX1, 1, rfl, ⟨by decide +kernel, by decide +kernel, by decide +kernel⟩, by decide, (mt 252 (by decide +kernel) rfl), (mt 250 (by decide +kernel) rfl), (mt 251 (by decide +kernel) rfl), (mt 7 (by decide +kernel) rfl), (Or.inl (mt 286 (by decide +kernel) rfl))⟩
theorem kc_X3_36 : Cond.constantLong RX3 36 (2) ∈ tblG := mt 287 (by decide +kernel) rfl
theorem vc_X3_38 : VC RX3 38 2 yX2_put cX2_put 7 (some FieldType.boolean) 2 := ⟨TX2, 2, rfl, ⟨by decide +kernel, by decide +kernel, by decide +kernel⟩, by decide, (mt 145 (by decide +kernel) rfl), (mt 143 (by decide +kernel) rfl), (mt 144 (by decide +kernel) rfl), (mt 3 (by decide +kernel) rfl), (Or.inl (mt 288 (by decide +kernel) rfl))⟩
theorem vc_X0_64 : VC RX0 64 0 yX0_start cX0_start 3 none 1 := ⟨TX0, 10, rfl, ⟨by decide +kernel, by decide +kernel, by decide +kernel⟩, by decide, (mt 292 (by decide +kernel) rfl), (mt 291 (by decide +kernel) rfl), (mp 2 (by decide +kernel) rfl), (mt 4 (by decide +kernel) rfl), (Or.inl (mt 289 (by decide +kernel) rfl))⟩
theorem sc_X0_87 : SC RX0 87 yX6_inOrder cX6_inOrder 2 (some FieldType.int) 2 := ⟨⟨by decide +kernel, by decide +kernel, by decide +kernel⟩, by decide, (mt 295 (by decide +kernel) rfl), (mt 294 (by decide +kernel) rfl), (mt 1 (by decide +kernel) rfl), (Or.inr ⟨"SquareSums", mx 293 (by decide +kernel) rfl⟩)⟩
theorem vc_X0_91 : VC RX0 91 3 yX3_at cX3_at 3 (some (FieldType.object "SquareSums$Fraction")) 2 := ⟨TX3, 2, rfl, ⟨by decide +kernel, by decide +kernel, by decide +kernel⟩, by decide, (mt 285 (by decide +kernel) rfl), (mt 283 (by decide +kernel) rfl), (mt 284 (by decide +kernel) rfl), (mt 2 (by decide +kernel) rfl), (Or.inl (mt 296 (by decide +kernel) rfl))⟩
theorem vc_X0_95 : VC RX0 95 2 yX2_sign cX2_sign 1 (some FieldType.int) 0 := ⟨TX2, 2, rfl, ⟨by decide +kernel, by decide +kernel, by decide +kernel⟩, by decide, (mt 300 (by decide +kernel) rfl), (mt 298 (by decide +kernel) rfl), (mt 299 (by decide +kernel) rfl), (mt 3 (by decide +kernel) rfl), (Or.inl (mt 297 (by decide +kernel) rfl))⟩
theorem sc_X2_37 : SC RX2 37 yJ13_compare_74951 cJ13_compare_74951 4 (some FieldType.int) 2 := ⟨⟨by decide +kernel, by decide +kernel, by decide +kernel⟩, by decide, (mt 303 (by decide +kernel) rfl), (mt 302 (by decide +kernel) rfl), (mt 12 (by decide +kernel) rfl), (Or.inl (mt 301 (by decide +kernel) rfl))⟩
theorem vc_X0_76 : VC RX0 76 0 yX0_makeSquare cX0_makeSquare 4 (some FieldType.boolean) 1 := ⟨TX0, 10, rfl, ⟨by decide +kernel, by decide +kernel, by decide +kernel⟩, by decide, (mt 307 (by decide +kernel) rfl), (mt 306 (by decide +kernel) rfl), (mp 3 (by decide +kernel) rfl), (mt 4 (by decide +kernel) rfl), (Or.inl (mt 304 (by decide +kernel) rfl))⟩
theorem vc_X0_111 : VC RX0 111 5 yX5_start cX5_start 4 none 2 := ⟨TX5, 3, rfl, ⟨by decide +kernel, by decide +kernel, by decide +kernel⟩, by decide, (mt 311 (by decide +kernel) rfl), (mt 309 (by decide +kernel) rfl), (mt 310 (by decide +kernel) rfl), (mt 5 (by decide +kernel) rfl), (Or.inl (mt 308 (by decide +kernel) rfl))⟩
theorem vc_X5_30 : VC RX5 30 2 yX2_copy cX2_copy 2 none 1 := ⟨TX2, 2, rfl, ⟨by decide +kernel, by decide +kernel, by decide +kernel⟩, by decide, (mt 315 (by decide +kernel) rfl), (mt 313 (by decide +kernel) rfl), (mt 314 (by decide +kernel) rfl), (mt 3 (by decide +kernel) rfl), (Or.inl (mt 312 (by decide +kernel) rfl))⟩
theorem vc_X5_34 : VC RX5 34 2 yX2_put cX2_put 7 (some FieldType.boolean) 2 := ⟨TX2, 2, rfl, ⟨by decide +kernel, by decide +kernel, by decide +kernel⟩, by decide, (mt 145 (by decide +kernel) rfl), (mt 143 (by decide +kernel) rfl), (mt 144 (by decide +kernel) rfl), (mt 3 (by decide +kernel) rfl), (Or.inl (mt 316 (by decide +kernel) rfl))⟩
theorem vc_X0_117 : VC RX0 117 2 yX2_quotient cX2_quotient 3 (some FieldType.boolean) 2 := ⟨TX2, 2, rfl, ⟨by decide +kernel, by decide +kernel, by decide +kernel⟩, by decide, (mt 320 (by decide +kernel) rfl), (mt 318 (by decide +kernel) rfl), (mt 319 (by decide +kernel) rfl), (mt 3 (by decide +kernel) rfl), (Or.inl (mt 317 (by decide +kernel) rfl))⟩
theorem sc_X2_24 : SC RX2 24 yX2_times cX2_times 6 (some FieldType.long) 2 := ⟨⟨by decide +kernel, by decide +kernel, by decide +kernel⟩, by decide, (mt 323 (by decide +kernel) rfl), (mt 322 (by decide +kernel) rfl), (mt 3 (by decide +kernel) rfl), (Or.inl (mt 321 (by decide +kernel) rfl))⟩
theorem vc_X2_30 : VC RX2 30 2 yX2_put cX2_put 7 (some FieldType.boolean) 2 := ⟨TX2, 2, rfl, ⟨by decide +kernel, by decide +kernel, by decide +kernel⟩, by decide, (mt 145 (by decide +kernel) rfl), (mt 143 (by decide +kernel) rfl), (mt 144 (by decide +kernel) rfl), (mt 3 (by decide +kernel) rfl), (Or.inl (mt 324 (by decide +kernel) rfl))⟩
theorem vc_X0_80 : VC RX0 80 0 yX0_lessen cX0_lessen 8 (some FieldType.boolean) 1 := ⟨TX0, 10, rfl, ⟨by decide +kernel, by decide +kernel, by decide +kernel⟩, by decide, (mt 328 (by decide +kernel) rfl), (mt 327 (by decide +kernel) rfl), (mp 4 (by decide +kernel) rfl), (mt 4 (by decide +kernel) rfl), (Or.inl (mt 325 (by decide +kernel) rfl))⟩
theorem vc_X0_121 : VC RX0 121 2 yX2_product cX2_product 3 (some FieldType.boolean) 2 := ⟨TX2, 2, rfl, ⟨by decide +kernel, by decide +kernel, by decide +kernel⟩, by decide, (mt 332 (by decide +kernel) rfl), (mt 330 (by decide +kernel) rfl), (mt 331 (by decide +kernel) rfl), (mt 3 (by decide +kernel) rfl), (Or.inl (mt 329 (by decide +kernel) rfl))⟩
theorem vc_X0_123 : VC RX0 123 2 yX2_difference cX2_difference 3 (some FieldType.boolean) 2 := ⟨TX2, 2, rfl, ⟨by decide +kernel, by decide +kernel, by decide +kernel⟩, by decide, (mt 336 (by decide +kernel) rfl), (mt 334 (by decide +kernel) rfl), (mt 335 (by decide +kernel) rfl), (mt 3 (by decide +kernel) rfl), (Or.inl (mt 333 (by decide +kernel) rfl))⟩
theorem sc_X2_34 : SC RX2 34 yX2_minus cX2_minus 7 (some FieldType.long) 2 := ⟨⟨by decide +kernel, by decide +kernel, by decide +kernel⟩, by decide, (mt 339 (by decide +kernel) rfl), (mt 338 (by decide +kernel) rfl), (mt 3 (by decide +kernel) rfl), (Or.inl (mt 337 (by decide +kernel) rfl))⟩
theorem vc_X0_126 : VC RX0 126 2 yX2_copy cX2_copy 2 none 1 := ⟨TX2, 2, rfl, ⟨by decide +kernel, by decide +kernel, by decide +kernel⟩, by decide, (mt 315 (by decide +kernel) rfl), (mt 313 (by decide +kernel) rfl), (mt 314 (by decide +kernel) rfl), (mt 3 (by decide +kernel) rfl), (Or.inl (mt 340 (by decide +kernel) rfl))⟩
theorem vc_L_37 : VC RL 37 6 yX6_prove cX6_prove 3 (some FieldType.int) 1 := ⟨TX6, 13, rfl, ⟨by decide +kernel, by decide +kernel, by decide +kernel⟩, by decide, (mt 344 (by decide +kernel) rfl), (mt 342 (by decide +kernel) rfl), (mt 343 (by decide +kernel) rfl), (mt 1 (by decide +kernel) rfl), (Or.inl (mt 341 (by decide +kernel) rfl))⟩
theorem vc_X6_112 : VC RX6 112 6 yX6_startTelling cX6_startTelling 3 none 2 := ⟨TX6, 13, rfl, ⟨by decide +kernel, by decide +kernel, by decide +kernel⟩, by decide, (mt 348 (by decide +kernel) rfl), (mt 347 (by decide +kernel) rfl), (mp 5 (by decide +kernel) rfl), (mt 1 (by decide +kernel) rfl), (Or.inl (mt 345 (by decide +kernel) rfl))⟩
theorem vc_X6_116 : VC RX6 116 3 yX3_take cX3_take 5 none 2 := ⟨TX3, 2, rfl, ⟨by decide +kernel, by decide +kernel, by decide +kernel⟩, by decide, (mt 281 (by decide +kernel) rfl), (mt 279 (by decide +kernel) rfl), (mt 280 (by decide +kernel) rfl), (mt 2 (by decide +kernel) rfl), (Or.inl (mt 349 (by decide +kernel) rfl))⟩
theorem vc_X6_120 : VC RX6 120 0 yX0_run cX0_run 6 (some FieldType.int) 2 := ⟨TX0, 10, rfl, ⟨by decide +kernel, by decide +kernel, by decide +kernel⟩, by decide, (mt 353 (by decide +kernel) rfl), (mt 351 (by decide +kernel) rfl), (mt 352 (by decide +kernel) rfl), (mt 4 (by decide +kernel) rfl), (Or.inl (mt 350 (by decide +kernel) rfl))⟩
theorem vc_X0_60 : VC RX0 60 3 yX3_copy cX3_copy 3 none 1 := ⟨TX3, 2, rfl, ⟨by decide +kernel, by decide +kernel, by decide +kernel⟩, by decide, (mt 357 (by decide +kernel) rfl), (mt 355 (by decide +kernel) rfl), (mt 356 (by decide +kernel) rfl), (mt 2 (by decide +kernel) rfl), (Or.inl (mt 354 (by decide +kernel) rfl))⟩
theorem vc_X3_53 : VC RX3 53 2 yX2_copy cX2_copy 2 none 1 := ⟨TX2, 2, rfl, ⟨by decide +kernel, by decide +kernel, by decide +kernel⟩, by decide, (mt 315 (by decide +kernel) rfl), (mt 313 (by decide +kernel) rfl), (mt 314 (by decide +kernel) rfl), (mt 3 (by decide +kernel) rfl), (Or.inl (mt 358 (by decide +kernel) rfl))⟩
theorem vc_X0_68 : VC RX0 68 0 yX0_firstLeftOfSign cX0_firstLeftOfSign 4 (some FieldType.int) 1 := ⟨TX0, 10, rfl, ⟨by decide +kernel, by decide +kernel, by decide +kernel⟩, by decide, (mt 362 (by decide +kernel) rfl), (mt 361 (by decide +kernel) rfl), (mp 6 (by decide +kernel) rfl), (mt 4 (by decide +kernel) rfl), (Or.inl (mt 359 (by decide +kernel) rfl))⟩
theorem vc_X0_72 : VC RX0 72 0 yX0_findPair cX0_findPair 5 (some FieldType.boolean) 0 := ⟨TX0, 10, rfl, ⟨by decide +kernel, by decide +kernel, by decide +kernel⟩, by decide, (mt 366 (by decide +kernel) rfl), (mt 365 (by decide +kernel) rfl), (mp 7 (by decide +kernel) rfl), (mt 4 (by decide +kernel) rfl), (Or.inl (mt 363 (by decide +kernel) rfl))⟩
theorem vc_X6_124 : VC RX6 124 6 yX6_pointFound cX6_pointFound 2 (some FieldType.boolean) 1 := ⟨TX6, 13, rfl, ⟨by decide +kernel, by decide +kernel, by decide +kernel⟩, by decide, (mt 370 (by decide +kernel) rfl), (mt 369 (by decide +kernel) rfl), (mp 8 (by decide +kernel) rfl), (mt 1 (by decide +kernel) rfl), (Or.inl (mt 367 (by decide +kernel) rfl))⟩
theorem vc_X6_216 : VC RX6 216 0 yX0_findNegative cX0_findNegative 2 (some FieldType.boolean) 0 := ⟨TX0, 10, rfl, ⟨by decide +kernel, by decide +kernel, by decide +kernel⟩, by decide, (mt 374 (by decide +kernel) rfl), (mt 372 (by decide +kernel) rfl), (mt 373 (by decide +kernel) rfl), (mt 4 (by decide +kernel) rfl), (Or.inl (mt 371 (by decide +kernel) rfl))⟩
theorem vc_X0_99 : VC RX0 99 0 yX0_clearWitness cX0_clearWitness 2 none 0 := ⟨TX0, 10, rfl, ⟨by decide +kernel, by decide +kernel, by decide +kernel⟩, by decide, (mt 378 (by decide +kernel) rfl), (mt 377 (by decide +kernel) rfl), (mp 9 (by decide +kernel) rfl), (mt 4 (by decide +kernel) rfl), (Or.inl (mt 375 (by decide +kernel) rfl))⟩
theorem vc_X0_102 : VC RX0 102 2 yX2_put cX2_put 7 (some FieldType.boolean) 2 := ⟨TX2, 2, rfl, ⟨by decide +kernel, by decide +kernel, by decide +kernel⟩, by decide, (mt 145 (by decide +kernel) rfl), (mt 143 (by decide +kernel) rfl), (mt 144 (by decide +kernel) rfl), (mt 3 (by decide +kernel) rfl), (Or.inl (mt 379 (by decide +kernel) rfl))⟩
theorem kc_X0_106 : Cond.constantLong RX0 106 (-1) ∈ tblG := mt 380 (by decide +kernel) rfl
theorem vc_X0_108 : VC RX0 108 0 yX0_goBack cX0_goBack 3 (some FieldType.boolean) 0 := ⟨TX0, 10, rfl, ⟨by decide +kernel, by decide +kernel, by decide +kernel⟩, by decide, (mt 384 (by decide +kernel) rfl), (mt 383 (by decide +kernel) rfl), (mp 10 (by decide +kernel) rfl), (mt 4 (by decide +kernel) rfl), (Or.inl (mt 381 (by decide +kernel) rfl))⟩
theorem vc_X0_129 : VC RX0 129 0 yX0_sumOfOthers cX0_sumOfOthers 4 (some FieldType.boolean) 1 := ⟨TX0, 10, rfl, ⟨by decide +kernel, by decide +kernel, by decide +kernel⟩, by decide, (mt 388 (by decide +kernel) rfl), (mt 387 (by decide +kernel) rfl), (mp 11 (by decide +kernel) rfl), (mt 4 (by decide +kernel) rfl), (Or.inl (mt 385 (by decide +kernel) rfl))⟩
theorem vc_X0_143 : VC RX0 143 2 yX2_sum cX2_sum 3 (some FieldType.boolean) 2 := ⟨TX2, 2, rfl, ⟨by decide +kernel, by decide +kernel, by decide +kernel⟩, by decide, (mt 392 (by decide +kernel) rfl), (mt 390 (by decide +kernel) rfl), (mt 391 (by decide +kernel) rfl), (mt 3 (by decide +kernel) rfl), (Or.inl (mt 389 (by decide +kernel) rfl))⟩
theorem sc_X2_27 : SC RX2 27 yX2_plus cX2_plus 7 (some FieldType.long) 2 := ⟨⟨by decide +kernel, by decide +kernel, by decide +kernel⟩, by decide, (mt 395 (by decide +kernel) rfl), (mt 394 (by decide +kernel) rfl), (mt 3 (by decide +kernel) rfl), (Or.inl (mt 393 (by decide +kernel) rfl))⟩
theorem vc_X6_219 : VC RX6 219 4 yX4_byWitness cX4_byWitness 5 (some FieldType.boolean) 3 := ⟨TX4, 4, rfl, ⟨by decide +kernel, by decide +kernel, by decide +kernel⟩, by decide, (mt 399 (by decide +kernel) rfl), (mt 397 (by decide +kernel) rfl), (mt 398 (by decide +kernel) rfl), (mt 6 (by decide +kernel) rfl), (Or.inl (mt 396 (by decide +kernel) rfl))⟩
theorem vc_X4_37 : VC RX4 37 2 yX2_sign cX2_sign 1 (some FieldType.int) 0 := ⟨TX2, 2, rfl, ⟨by decide +kernel, by decide +kernel, by decide +kernel⟩, by decide, (mt 300 (by decide +kernel) rfl), (mt 298 (by decide +kernel) rfl), (mt 299 (by decide +kernel) rfl), (mt 3 (by decide +kernel) rfl), (Or.inl (mt 400 (by decide +kernel) rfl))⟩
theorem vc_X4_41 : VC RX4 41 4 yX4_byQuotients cX4_byQuotients 4 (some FieldType.boolean) 2 := ⟨TX4, 4, rfl, ⟨by decide +kernel, by decide +kernel, by decide +kernel⟩, by decide, (mt 404 (by decide +kernel) rfl), (mt 402 (by decide +kernel) rfl), (mt 403 (by decide +kernel) rfl), (mt 6 (by decide +kernel) rfl), (Or.inl (mt 401 (by decide +kernel) rfl))⟩
theorem vc_X4_53 : VC RX4 53 2 yX2_quotient cX2_quotient 3 (some FieldType.boolean) 2 := ⟨TX2, 2, rfl, ⟨by decide +kernel, by decide +kernel, by decide +kernel⟩, by decide, (mt 320 (by decide +kernel) rfl), (mt 318 (by decide +kernel) rfl), (mt 319 (by decide +kernel) rfl), (mt 3 (by decide +kernel) rfl), (Or.inl (mt 405 (by decide +kernel) rfl))⟩
theorem vc_X4_45 : VC RX4 45 4 yX4_takeMultiple cX4_takeMultiple 6 (some FieldType.boolean) 3 := ⟨TX4, 4, rfl, ⟨by decide +kernel, by decide +kernel, by decide +kernel⟩, by decide, (mt 409 (by decide +kernel) rfl), (mt 408 (by decide +kernel) rfl), (mp 12 (by decide +kernel) rfl), (mt 6 (by decide +kernel) rfl), (Or.inl (mt 406 (by decide +kernel) rfl))⟩
theorem vc_X4_57 : VC RX4 57 2 yX2_product cX2_product 3 (some FieldType.boolean) 2 := ⟨TX2, 2, rfl, ⟨by decide +kernel, by decide +kernel, by decide +kernel⟩, by decide, (mt 332 (by decide +kernel) rfl), (mt 330 (by decide +kernel) rfl), (mt 331 (by decide +kernel) rfl), (mt 3 (by decide +kernel) rfl), (Or.inl (mt 410 (by decide +kernel) rfl))⟩
theorem vc_X4_49 : VC RX4 49 4 yX4_workOut cX4_workOut 6 (some FieldType.boolean) 2 := ⟨TX4, 4, rfl, ⟨by decide +kernel, by decide +kernel, by decide +kernel⟩, by decide, (mt 414 (by decide +kernel) rfl), (mt 413 (by decide +kernel) rfl), (mp 13 (by decide +kernel) rfl), (mt 6 (by decide +kernel) rfl), (Or.inl (mt 411 (by decide +kernel) rfl))⟩
theorem vc_X4_60 : VC RX4 60 1 yX1_number cX1_number 3 (some FieldType.int) 2 := ⟨TX1, 1, rfl, ⟨by decide +kernel, by decide +kernel, by decide +kernel⟩, by decide, (mt 252 (by decide +kernel) rfl), (mt 250 (by decide +kernel) rfl), (mt 251 (by decide +kernel) rfl), (mt 7 (by decide +kernel) rfl), (Or.inl (mt 415 (by decide +kernel) rfl))⟩
theorem vc_X4_66 : VC RX4 66 2 yX2_sum cX2_sum 3 (some FieldType.boolean) 2 := ⟨TX2, 2, rfl, ⟨by decide +kernel, by decide +kernel, by decide +kernel⟩, by decide, (mt 392 (by decide +kernel) rfl), (mt 390 (by decide +kernel) rfl), (mt 391 (by decide +kernel) rfl), (mt 3 (by decide +kernel) rfl), (Or.inl (mt 416 (by decide +kernel) rfl))⟩
theorem vc_X6_128 : VC RX6 128 6 yX6_endTelling cX6_endTelling 2 (some FieldType.int) 1 := ⟨TX6, 13, rfl, ⟨by decide +kernel, by decide +kernel, by decide +kernel⟩, by decide, (mt 420 (by decide +kernel) rfl), (mt 419 (by decide +kernel) rfl), (mp 14 (by decide +kernel) rfl), (mt 1 (by decide +kernel) rfl), (Or.inl (mt 417 (by decide +kernel) rfl))⟩
theorem vc_L_41 : VC RL 41 6 yX6_under cX6_under 4 (some FieldType.int) 3 := ⟨TX6, 13, rfl, ⟨by decide +kernel, by decide +kernel, by decide +kernel⟩, by decide, (mt 424 (by decide +kernel) rfl), (mt 422 (by decide +kernel) rfl), (mt 423 (by decide +kernel) rfl), (mt 1 (by decide +kernel) rfl), (Or.inl (mt 421 (by decide +kernel) rfl))⟩
theorem vc_X6_132 : VC RX6 132 6 yX6_multiplierFound cX6_multiplierFound 8 (some FieldType.boolean) 3 := ⟨TX6, 13, rfl, ⟨by decide +kernel, by decide +kernel, by decide +kernel⟩, by decide, (mt 428 (by decide +kernel) rfl), (mt 427 (by decide +kernel) rfl), (mp 15 (by decide +kernel) rfl), (mt 1 (by decide +kernel) rfl), (Or.inl (mt 425 (by decide +kernel) rfl))⟩
theorem sc_X6_223 : SC RX6 223 yX2_commonDivisor cX2_commonDivisor 11 (some FieldType.long) 2 := ⟨⟨by decide +kernel, by decide +kernel, by decide +kernel⟩, by decide, (mt 149 (by decide +kernel) rfl), (mt 148 (by decide +kernel) rfl), (mt 3 (by decide +kernel) rfl), (Or.inl (mt 429 (by decide +kernel) rfl))⟩
theorem vc_X6_177 : VC RX6 177 2 yX2_put cX2_put 7 (some FieldType.boolean) 2 := ⟨TX2, 2, rfl, ⟨by decide +kernel, by decide +kernel, by decide +kernel⟩, by decide, (mt 145 (by decide +kernel) rfl), (mt 143 (by decide +kernel) rfl), (mt 144 (by decide +kernel) rfl), (mt 3 (by decide +kernel) rfl), (Or.inl (mt 430 (by decide +kernel) rfl))⟩
theorem vc_X6_227 : VC RX6 227 3 yX3_takeLess cX3_takeLess 8 (some FieldType.boolean) 4 := ⟨TX3, 2, rfl, ⟨by decide +kernel, by decide +kernel, by decide +kernel⟩, by decide, (mt 434 (by decide +kernel) rfl), (mt 432 (by decide +kernel) rfl), (mt 433 (by decide +kernel) rfl), (mt 2 (by decide +kernel) rfl), (Or.inl (mt 431 (by decide +kernel) rfl))⟩
theorem vc_X3_42 : VC RX3 42 3 yX3_take cX3_take 5 none 2 := ⟨TX3, 2, rfl, ⟨by decide +kernel, by decide +kernel, by decide +kernel⟩, by decide, (mt 281 (by decide +kernel) rfl), (mt 279 (by decide +kernel) rfl), (mt 280 (by decide +kernel) rfl), (mt 2 (by decide +kernel) rfl), (Or.inl (mt 435 (by decide +kernel) rfl))⟩
theorem vc_X3_46 : VC RX3 46 2 yX2_product cX2_product 3 (some FieldType.boolean) 2 := ⟨TX2, 2, rfl, ⟨by decide +kernel, by decide +kernel, by decide +kernel⟩, by decide, (mt 332 (by decide +kernel) rfl), (mt 330 (by decide +kernel) rfl), (mt 331 (by decide +kernel) rfl), (mt 3 (by decide +kernel) rfl), (Or.inl (mt 436 (by decide +kernel) rfl))⟩
theorem vc_X3_50 : VC RX3 50 2 yX2_difference cX2_difference 3 (some FieldType.boolean) 2 := ⟨TX2, 2, rfl, ⟨by decide +kernel, by decide +kernel, by decide +kernel⟩, by decide, (mt 336 (by decide +kernel) rfl), (mt 334 (by decide +kernel) rfl), (mt 335 (by decide +kernel) rfl), (mt 3 (by decide +kernel) rfl), (Or.inl (mt 437 (by decide +kernel) rfl))⟩
theorem vc_X6_136 : VC RX6 136 6 yX6_wholePointFound cX6_wholePointFound 5 (some FieldType.boolean) 2 := ⟨TX6, 13, rfl, ⟨by decide +kernel, by decide +kernel, by decide +kernel⟩, by decide, (mt 441 (by decide +kernel) rfl), (mt 440 (by decide +kernel) rfl), (mp 16 (by decide +kernel) rfl), (mt 1 (by decide +kernel) rfl), (Or.inl (mt 438 (by decide +kernel) rfl))⟩
theorem kc_X6_231 : Cond.constantLong RX6 231 (-3) ∈ tblG := mt 442 (by decide +kernel) rfl
theorem vc_X6_233 : VC RX6 233 4 yX4_takeWhole cX4_takeWhole 4 none 2 := ⟨TX4, 4, rfl, ⟨by decide +kernel, by decide +kernel, by decide +kernel⟩, by decide, (mt 446 (by decide +kernel) rfl), (mt 444 (by decide +kernel) rfl), (mt 445 (by decide +kernel) rfl), (mt 6 (by decide +kernel) rfl), (Or.inl (mt 443 (by decide +kernel) rfl))⟩
theorem vc_X6_237 : VC RX6 237 6 yX6_nextOnGrid cX6_nextOnGrid 2 none 0 := ⟨TX6, 13, rfl, ⟨by decide +kernel, by decide +kernel, by decide +kernel⟩, by decide, (mt 450 (by decide +kernel) rfl), (mt 449 (by decide +kernel) rfl), (mp 17 (by decide +kernel) rfl), (mt 1 (by decide +kernel) rfl), (Or.inl (mt 447 (by decide +kernel) rfl))⟩
theorem kc_X6_240 : Cond.constantLong RX6 240 (3) ∈ tblG := mt 451 (by decide +kernel) rfl
theorem vc_L_46 : VC RL 46 6 yX6_told cX6_told 2 (some FieldType.int) 1 := ⟨TX6, 13, rfl, ⟨by decide +kernel, by decide +kernel, by decide +kernel⟩, by decide, (mt 455 (by decide +kernel) rfl), (mt 453 (by decide +kernel) rfl), (mt 454 (by decide +kernel) rfl), (mt 1 (by decide +kernel) rfl), (Or.inl (mt 452 (by decide +kernel) rfl))⟩
theorem vc_L_50 : VC RL 50 6 yX6_weight cX6_weight 3 (some FieldType.long) 2 := ⟨TX6, 13, rfl, ⟨by decide +kernel, by decide +kernel, by decide +kernel⟩, by decide, (mt 459 (by decide +kernel) rfl), (mt 457 (by decide +kernel) rfl), (mt 458 (by decide +kernel) rfl), (mt 1 (by decide +kernel) rfl), (Or.inl (mt 456 (by decide +kernel) rfl))⟩
theorem vc_X6_140 : VC RX6 140 6 yX6_isSquare cX6_isSquare 2 (some FieldType.boolean) 1 := ⟨TX6, 13, rfl, ⟨by decide +kernel, by decide +kernel, by decide +kernel⟩, by decide, (mt 463 (by decide +kernel) rfl), (mt 462 (by decide +kernel) rfl), (mp 18 (by decide +kernel) rfl), (mt 1 (by decide +kernel) rfl), (Or.inl (mt 460 (by decide +kernel) rfl))⟩
theorem sc_X6_143 : SC RX6 143 yX6_isPart cX6_isPart 1 (some FieldType.boolean) 1 := ⟨⟨by decide +kernel, by decide +kernel, by decide +kernel⟩, by decide, (mt 466 (by decide +kernel) rfl), (mt 465 (by decide +kernel) rfl), (mt 1 (by decide +kernel) rfl), (Or.inl (mt 464 (by decide +kernel) rfl))⟩
theorem vc_X6_155 : VC RX6 155 2 yX2_part cX2_part 2 (some FieldType.long) 1 := ⟨TX2, 2, rfl, ⟨by decide +kernel, by decide +kernel, by decide +kernel⟩, by decide, (mt 470 (by decide +kernel) rfl), (mt 468 (by decide +kernel) rfl), (mt 469 (by decide +kernel) rfl), (mt 3 (by decide +kernel) rfl), (Or.inl (mt 467 (by decide +kernel) rfl))⟩
theorem vc_L_55 : VC RL 55 6 yX6_line cX6_line 4 (some FieldType.long) 3 := ⟨TX6, 13, rfl, ⟨by decide +kernel, by decide +kernel, by decide +kernel⟩, by decide, (mt 474 (by decide +kernel) rfl), (mt 472 (by decide +kernel) rfl), (mt 473 (by decide +kernel) rfl), (mt 1 (by decide +kernel) rfl), (Or.inl (mt 471 (by decide +kernel) rfl))⟩
theorem vc_L_60 : VC RL 60 6 yX6_point cX6_point 3 (some FieldType.long) 2 := ⟨TX6, 13, rfl, ⟨by decide +kernel, by decide +kernel, by decide +kernel⟩, by decide, (mt 478 (by decide +kernel) rfl), (mt 476 (by decide +kernel) rfl), (mt 477 (by decide +kernel) rfl), (mt 1 (by decide +kernel) rfl), (Or.inl (mt 475 (by decide +kernel) rfl))⟩
theorem vc_L_64 : VC RL 64 6 yX6_near cX6_near 3 (some FieldType.long) 1 := ⟨TX6, 13, rfl, ⟨by decide +kernel, by decide +kernel, by decide +kernel⟩, by decide, (mt 482 (by decide +kernel) rfl), (mt 480 (by decide +kernel) rfl), (mt 481 (by decide +kernel) rfl), (mt 1 (by decide +kernel) rfl), (Or.inl (mt 479 (by decide +kernel) rfl))⟩
theorem sc_X6_173 : SC RX6 173 yX6_bits cX6_bits 12 (some FieldType.long) 1 := ⟨⟨by decide +kernel, by decide +kernel, by decide +kernel⟩, by decide, (mt 485 (by decide +kernel) rfl), (mt 484 (by decide +kernel) rfl), (mt 1 (by decide +kernel) rfl), (Or.inl (mt 483 (by decide +kernel) rfl))⟩
theorem kc_X6_249 : Cond.constantLong RX6 249 (1023) ∈ tblG := mt 486 (by decide +kernel) rfl
theorem kc_X6_251 : Cond.constantDouble RX6 251 4611686018427387904 ∈ tblG := mt 487 (by decide +kernel) rfl
theorem kc_X6_253 : Cond.constantLong RX6 253 (4503599627370496) ∈ tblG := mt 488 (by decide +kernel) rfl
theorem kc_X6_255 : Cond.constantLong RX6 255 (-9223372036854775808) ∈ tblG := mt 489 (by decide +kernel) rfl
theorem vc_L_71 : VC RL 71 6 yX6_plant cX6_plant 6 (some FieldType.int) 3 := ⟨TX6, 13, rfl, ⟨by decide +kernel, by decide +kernel, by decide +kernel⟩, by decide, (mt 493 (by decide +kernel) rfl), (mt 491 (by decide +kernel) rfl), (mt 492 (by decide +kernel) rfl), (mt 1 (by decide +kernel) rfl), (Or.inl (mt 490 (by decide +kernel) rfl))⟩
theorem vc_L_76 : VC RL 76 6 yX6_check cX6_check 4 (some FieldType.int) 0 := ⟨TX6, 13, rfl, ⟨by decide +kernel, by decide +kernel, by decide +kernel⟩, by decide, (mt 497 (by decide +kernel) rfl), (mt 495 (by decide +kernel) rfl), (mt 496 (by decide +kernel) rfl), (mt 1 (by decide +kernel) rfl), (Or.inl (mt 494 (by decide +kernel) rfl))⟩
theorem vc_X6_181 : VC RX6 181 6 yX6_isProved cX6_isProved 1 (some FieldType.boolean) 0 := ⟨TX6, 13, rfl, ⟨by decide +kernel, by decide +kernel, by decide +kernel⟩, by decide, (mt 501 (by decide +kernel) rfl), (mt 500 (by decide +kernel) rfl), (mp 19 (by decide +kernel) rfl), (mt 1 (by decide +kernel) rfl), (Or.inl (mt 498 (by decide +kernel) rfl))⟩
theorem vc_X6_185 : VC RX6 185 6 yX6_expand cX6_expand 6 (some FieldType.boolean) 2 := ⟨TX6, 13, rfl, ⟨by decide +kernel, by decide +kernel, by decide +kernel⟩, by decide, (mt 505 (by decide +kernel) rfl), (mt 504 (by decide +kernel) rfl), (mp 20 (by decide +kernel) rfl), (mt 1 (by decide +kernel) rfl), (Or.inl (mt 502 (by decide +kernel) rfl))⟩
theorem vc_X6_242 : VC RX6 242 2 yX2_product cX2_product 3 (some FieldType.boolean) 2 := ⟨TX2, 2, rfl, ⟨by decide +kernel, by decide +kernel, by decide +kernel⟩, by decide, (mt 332 (by decide +kernel) rfl), (mt 330 (by decide +kernel) rfl), (mt 331 (by decide +kernel) rfl), (mt 3 (by decide +kernel) rfl), (Or.inl (mt 506 (by decide +kernel) rfl))⟩
theorem vc_X6_246 : VC RX6 246 2 yX2_sum cX2_sum 3 (some FieldType.boolean) 2 := ⟨TX2, 2, rfl, ⟨by decide +kernel, by decide +kernel, by decide +kernel⟩, by decide, (mt 392 (by decide +kernel) rfl), (mt 390 (by decide +kernel) rfl), (mt 391 (by decide +kernel) rfl), (mt 3 (by decide +kernel) rfl), (Or.inl (mt 507 (by decide +kernel) rfl))⟩
theorem vc_X6_189 : VC RX6 189 3 yX3_at cX3_at 3 (some (FieldType.object "SquareSums$Fraction")) 2 := ⟨TX3, 2, rfl, ⟨by decide +kernel, by decide +kernel, by decide +kernel⟩, by decide, (mt 285 (by decide +kernel) rfl), (mt 283 (by decide +kernel) rfl), (mt 284 (by decide +kernel) rfl), (mt 2 (by decide +kernel) rfl), (Or.inl (mt 508 (by decide +kernel) rfl))⟩
theorem vc_X6_193 : VC RX6 193 2 yX2_isSame cX2_isSame 2 (some FieldType.boolean) 1 := ⟨TX2, 2, rfl, ⟨by decide +kernel, by decide +kernel, by decide +kernel⟩, by decide, (mt 512 (by decide +kernel) rfl), (mt 510 (by decide +kernel) rfl), (mt 511 (by decide +kernel) rfl), (mt 3 (by decide +kernel) rfl), (Or.inl (mt 509 (by decide +kernel) rfl))⟩
theorem vc_L_80 : VC RL 80 6 yX6_equal cX6_equal 1 (some FieldType.int) 0 := ⟨TX6, 13, rfl, ⟨by decide +kernel, by decide +kernel, by decide +kernel⟩, by decide, (mt 516 (by decide +kernel) rfl), (mt 514 (by decide +kernel) rfl), (mt 515 (by decide +kernel) rfl), (mt 1 (by decide +kernel) rfl), (Or.inl (mt 513 (by decide +kernel) rfl))⟩
theorem vc_X6_201 : VC RX6 201 0 yX0_findZero cX0_findZero 1 (some FieldType.boolean) 0 := ⟨TX0, 10, rfl, ⟨by decide +kernel, by decide +kernel, by decide +kernel⟩, by decide, (mt 520 (by decide +kernel) rfl), (mt 518 (by decide +kernel) rfl), (mt 519 (by decide +kernel) rfl), (mt 4 (by decide +kernel) rfl), (Or.inl (mt 517 (by decide +kernel) rfl))⟩
theorem vc_X6_207 : VC RX6 207 4 yX4_byQuotients cX4_byQuotients 4 (some FieldType.boolean) 2 := ⟨TX4, 4, rfl, ⟨by decide +kernel, by decide +kernel, by decide +kernel⟩, by decide, (mt 404 (by decide +kernel) rfl), (mt 402 (by decide +kernel) rfl), (mt 403 (by decide +kernel) rfl), (mt 6 (by decide +kernel) rfl), (Or.inl (mt 521 (by decide +kernel) rfl))⟩
theorem vc_L_84 : VC RL 84 6 yX6_pivot cX6_pivot 5 (some FieldType.long) 2 := ⟨TX6, 13, rfl, ⟨by decide +kernel, by decide +kernel, by decide +kernel⟩, by decide, (mt 525 (by decide +kernel) rfl), (mt 523 (by decide +kernel) rfl), (mt 524 (by decide +kernel) rfl), (mt 1 (by decide +kernel) rfl), (Or.inl (mt 522 (by decide +kernel) rfl))⟩
theorem kc_X6_211 : Cond.constantLong RX6 211 (-30) ∈ tblG := mt 526 (by decide +kernel) rfl
theorem vc_L_89 : VC RL 89 6 yX6_count cX6_count 2 (some FieldType.int) 1 := ⟨TX6, 13, rfl, ⟨by decide +kernel, by decide +kernel, by decide +kernel⟩, by decide, (mt 530 (by decide +kernel) rfl), (mt 528 (by decide +kernel) rfl), (mt 529 (by decide +kernel) rfl), (mt 1 (by decide +kernel) rfl), (Or.inl (mt 527 (by decide +kernel) rfl))⟩
theorem fl_X7_7 : FL RX7 7 7 0 := ⟨RX7, TX7, 45, rfl, by decide, igX7, rfl, (Or.inl (mt 537 (by decide +kernel) rfl))⟩
theorem fw_X7_7 : FW RX7 7 7 0 .int := ⟨RX7, TX7, 45, tyX7, rfl, by decide, igX7, rfl, (Or.inl (mt 537 (by decide +kernel) rfl)), tyX7_ok, nmX7, rfl, by decide +kernel⟩
theorem fl_X7_97 : FL RX7 97 7 1 := ⟨RX7, TX7, 45, rfl, by decide, igX7, rfl, (Or.inl (mt 538 (by decide +kernel) rfl))⟩
theorem fw_X7_97 : FW RX7 97 7 1 .int := ⟨RX7, TX7, 45, tyX7, rfl, by decide, igX7, rfl, (Or.inl (mt 538 (by decide +kernel) rfl)), tyX7_ok, nmX7, rfl, by decide +kernel⟩
theorem fl_X7_13 : FL RX7 13 7 2 := ⟨RX7, TX7, 45, rfl, by decide, igX7, rfl, (Or.inl (mt 539 (by decide +kernel) rfl))⟩
theorem fl_X7_106 : FL RX7 106 7 3 := ⟨RX7, TX7, 45, rfl, by decide, igX7, rfl, (Or.inl (mt 540 (by decide +kernel) rfl))⟩
theorem fw_X7_106 : FW RX7 106 7 3 .int := ⟨RX7, TX7, 45, tyX7, rfl, by decide, igX7, rfl, (Or.inl (mt 540 (by decide +kernel) rfl)), tyX7_ok, nmX7, rfl, by decide +kernel⟩
theorem fl_X7_17 : FL RX7 17 7 4 := ⟨RX7, TX7, 45, rfl, by decide, igX7, rfl, (Or.inl (mt 541 (by decide +kernel) rfl))⟩
theorem fl_X7_147 : FL RX7 147 7 5 := ⟨RX7, TX7, 45, rfl, by decide, igX7, rfl, (Or.inl (mt 542 (by decide +kernel) rfl))⟩
theorem fw_X7_147 : FW RX7 147 7 5 .long := ⟨RX7, TX7, 45, tyX7, rfl, by decide, igX7, rfl, (Or.inl (mt 542 (by decide +kernel) rfl)), tyX7_ok, nmX7, rfl, by decide +kernel⟩
theorem fl_X7_151 : FL RX7 151 7 6 := ⟨RX7, TX7, 45, rfl, by decide, igX7, rfl, (Or.inl (mt 543 (by decide +kernel) rfl))⟩
theorem fw_X7_151 : FW RX7 151 7 6 .long := ⟨RX7, TX7, 45, tyX7, rfl, by decide, igX7, rfl, (Or.inl (mt 543 (by decide +kernel) rfl)), tyX7_ok, nmX7, rfl, by decide +kernel⟩
theorem fl_X7_139 : FL RX7 139 7 7 := ⟨RX7, TX7, 45, rfl, by decide, igX7, rfl, (Or.inl (mt 544 (by decide +kernel) rfl))⟩
theorem fw_X7_139 : FW RX7 139 7 7 .boolean := ⟨RX7, TX7, 45, tyX7, rfl, by decide, igX7, rfl, (Or.inl (mt 544 (by decide +kernel) rfl)), tyX7_ok, nmX7, rfl, by decide +kernel⟩
theorem fl_X7_142 : FL RX7 142 7 8 := ⟨RX7, TX7, 45, rfl, by decide, igX7, rfl, (Or.inl (mt 545 (by decide +kernel) rfl))⟩
theorem fw_X7_142 : FW RX7 142 7 8 .boolean := ⟨RX7, TX7, 45, tyX7, rfl, by decide, igX7, rfl, (Or.inl (mt 545 (by decide +kernel) rfl)), tyX7_ok, nmX7, rfl, by decide +kernel⟩
theorem fl_X7_20 : FL RX7 20 7 9 := ⟨RX7, TX7, 45, rfl, by decide, igX7, rfl, (Or.inl (mt 546 (by decide +kernel) rfl))⟩
theorem fl_X7_24 : FL RX7 24 7 10 := ⟨RX7, TX7, 45, rfl, by decide, igX7, rfl, (Or.inl (mt 547 (by decide +kernel) rfl))⟩
theorem fl_X7_27 : FL RX7 27 7 11 := ⟨RX7, TX7, 45, rfl, by decide, igX7, rfl, (Or.inl (mt 548 (by decide +kernel) rfl))⟩
theorem fl_X7_30 : FL RX7 30 7 12 := ⟨RX7, TX7, 45, rfl, by decide, igX7, rfl, (Or.inl (mt 549 (by decide +kernel) rfl))⟩
theorem fl_X7_33 : FL RX7 33 7 13 := ⟨RX7, TX7, 45, rfl, by decide, igX7, rfl, (Or.inl (mt 550 (by decide +kernel) rfl))⟩
theorem fl_X7_109 : FL RX7 109 7 14 := ⟨RX7, TX7, 45, rfl, by decide, igX7, rfl, (Or.inl (mt 551 (by decide +kernel) rfl))⟩
theorem fw_X7_109 : FW RX7 109 7 14 .int := ⟨RX7, TX7, 45, tyX7, rfl, by decide, igX7, rfl, (Or.inl (mt 551 (by decide +kernel) rfl)), tyX7_ok, nmX7, rfl, by decide +kernel⟩
theorem fl_X7_37 : FL RX7 37 7 15 := ⟨RX7, TX7, 45, rfl, by decide, igX7, rfl, (Or.inl (mt 552 (by decide +kernel) rfl))⟩
theorem fl_X7_40 : FL RX7 40 7 16 := ⟨RX7, TX7, 45, rfl, by decide, igX7, rfl, (Or.inl (mt 553 (by decide +kernel) rfl))⟩
theorem fl_X7_43 : FL RX7 43 7 17 := ⟨RX7, TX7, 45, rfl, by decide, igX7, rfl, (Or.inl (mt 554 (by decide +kernel) rfl))⟩
theorem fl_X7_46 : FL RX7 46 7 18 := ⟨RX7, TX7, 45, rfl, by decide, igX7, rfl, (Or.inl (mt 555 (by decide +kernel) rfl))⟩
theorem fl_X7_49 : FL RX7 49 7 19 := ⟨RX7, TX7, 45, rfl, by decide, igX7, rfl, (Or.inl (mt 556 (by decide +kernel) rfl))⟩
theorem fl_X7_52 : FL RX7 52 7 20 := ⟨RX7, TX7, 45, rfl, by decide, igX7, rfl, (Or.inl (mt 557 (by decide +kernel) rfl))⟩
theorem fl_X7_202 : FL RX7 202 7 21 := ⟨RX7, TX7, 45, rfl, by decide, igX7, rfl, (Or.inl (mt 558 (by decide +kernel) rfl))⟩
theorem fw_X7_202 : FW RX7 202 7 21 .int := ⟨RX7, TX7, 45, tyX7, rfl, by decide, igX7, rfl, (Or.inl (mt 558 (by decide +kernel) rfl)), tyX7_ok, nmX7, rfl, by decide +kernel⟩
theorem fl_X7_189 : FL RX7 189 7 22 := ⟨RX7, TX7, 45, rfl, by decide, igX7, rfl, (Or.inl (mt 559 (by decide +kernel) rfl))⟩
theorem fw_X7_189 : FW RX7 189 7 22 .int := ⟨RX7, TX7, 45, tyX7, rfl, by decide, igX7, rfl, (Or.inl (mt 559 (by decide +kernel) rfl)), tyX7_ok, nmX7, rfl, by decide +kernel⟩
theorem fl_X7_192 : FL RX7 192 7 23 := ⟨RX7, TX7, 45, rfl, by decide, igX7, rfl, (Or.inl (mt 560 (by decide +kernel) rfl))⟩
theorem fw_X7_192 : FW RX7 192 7 23 .int := ⟨RX7, TX7, 45, tyX7, rfl, by decide, igX7, rfl, (Or.inl (mt 560 (by decide +kernel) rfl)), tyX7_ok, nmX7, rfl, by decide +kernel⟩
theorem fl_X7_221 : FL RX7 221 7 24 := ⟨RX7, TX7, 45, rfl, by decide, igX7, rfl, (Or.inl (mt 561 (by decide +kernel) rfl))⟩
theorem fw_X7_221 : FW RX7 221 7 24 .int := ⟨RX7, TX7, 45, tyX7, rfl, by decide, igX7, rfl, (Or.inl (mt 561 (by decide +kernel) rfl)), tyX7_ok, nmX7, rfl, by decide +kernel⟩
theorem fl_X7_55 : FL RX7 55 7 25 := ⟨RX7, TX7, 45, rfl, by decide, igX7, rfl, (Or.inl (mt 562 (by decide +kernel) rfl))⟩
theorem fl_X7_58 : FL RX7 58 7 26 := ⟨RX7, TX7, 45, rfl, by decide, igX7, rfl, (Or.inl (mt 563 (by decide +kernel) rfl))⟩
theorem fl_X7_61 : FL RX7 61 7 27 := ⟨RX7, TX7, 45, rfl, by decide, igX7, rfl, (Or.inl (mt 564 (by decide +kernel) rfl))⟩
theorem fl_X7_64 : FL RX7 64 7 28 := ⟨RX7, TX7, 45, rfl, by decide, igX7, rfl, (Or.inl (mt 565 (by decide +kernel) rfl))⟩
theorem fl_X7_67 : FL RX7 67 7 29 := ⟨RX7, TX7, 45, rfl, by decide, igX7, rfl, (Or.inl (mt 566 (by decide +kernel) rfl))⟩
theorem fl_X7_70 : FL RX7 70 7 30 := ⟨RX7, TX7, 45, rfl, by decide, igX7, rfl, (Or.inl (mt 567 (by decide +kernel) rfl))⟩
theorem fl_X7_73 : FL RX7 73 7 31 := ⟨RX7, TX7, 45, rfl, by decide, igX7, rfl, (Or.inl (mt 568 (by decide +kernel) rfl))⟩
theorem fl_X7_112 : FL RX7 112 7 32 := ⟨RX7, TX7, 45, rfl, by decide, igX7, rfl, (Or.inl (mt 569 (by decide +kernel) rfl))⟩
theorem fw_X7_112 : FW RX7 112 7 32 .boolean := ⟨RX7, TX7, 45, tyX7, rfl, by decide, igX7, rfl, (Or.inl (mt 569 (by decide +kernel) rfl)), tyX7_ok, nmX7, rfl, by decide +kernel⟩
theorem fl_X7_76 : FL RX7 76 7 33 := ⟨RX7, TX7, 45, rfl, by decide, igX7, rfl, (Or.inl (mt 570 (by decide +kernel) rfl))⟩
theorem fl_X7_79 : FL RX7 79 7 34 := ⟨RX7, TX7, 45, rfl, by decide, igX7, rfl, (Or.inl (mt 571 (by decide +kernel) rfl))⟩
theorem fl_X7_94 : FL RX7 94 7 35 := ⟨RX7, TX7, 45, rfl, by decide, igX7, rfl, (Or.inl (mt 572 (by decide +kernel) rfl))⟩
theorem fw_X7_94 : FW RX7 94 7 35 .int := ⟨RX7, TX7, 45, tyX7, rfl, by decide, igX7, rfl, (Or.inl (mt 572 (by decide +kernel) rfl)), tyX7_ok, nmX7, rfl, by decide +kernel⟩
theorem fl_X7_236 : FL RX7 236 7 36 := ⟨RX7, TX7, 45, rfl, by decide, igX7, rfl, (Or.inl (mt 573 (by decide +kernel) rfl))⟩
theorem fw_X7_236 : FW RX7 236 7 36 .int := ⟨RX7, TX7, 45, tyX7, rfl, by decide, igX7, rfl, (Or.inl (mt 573 (by decide +kernel) rfl)), tyX7_ok, nmX7, rfl, by decide +kernel⟩
theorem fl_X7_239 : FL RX7 239 7 37 := ⟨RX7, TX7, 45, rfl, by decide, igX7, rfl, (Or.inl (mt 574 (by decide +kernel) rfl))⟩
theorem fw_X7_239 : FW RX7 239 7 37 .int := ⟨RX7, TX7, 45, tyX7, rfl, by decide, igX7, rfl, (Or.inl (mt 574 (by decide +kernel) rfl)), tyX7_ok, nmX7, rfl, by decide +kernel⟩
theorem fl_X7_242 : FL RX7 242 7 38 := ⟨RX7, TX7, 45, rfl, by decide, igX7, rfl, (Or.inl (mt 575 (by decide +kernel) rfl))⟩
theorem fw_X7_242 : FW RX7 242 7 38 .int := ⟨RX7, TX7, 45, tyX7, rfl, by decide, igX7, rfl, (Or.inl (mt 575 (by decide +kernel) rfl)), tyX7_ok, nmX7, rfl, by decide +kernel⟩
theorem fl_X7_245 : FL RX7 245 7 39 := ⟨RX7, TX7, 45, rfl, by decide, igX7, rfl, (Or.inl (mt 576 (by decide +kernel) rfl))⟩
theorem fw_X7_245 : FW RX7 245 7 39 .int := ⟨RX7, TX7, 45, tyX7, rfl, by decide, igX7, rfl, (Or.inl (mt 576 (by decide +kernel) rfl)), tyX7_ok, nmX7, rfl, by decide +kernel⟩
theorem fl_X7_248 : FL RX7 248 7 40 := ⟨RX7, TX7, 45, rfl, by decide, igX7, rfl, (Or.inl (mt 577 (by decide +kernel) rfl))⟩
theorem fw_X7_248 : FW RX7 248 7 40 .int := ⟨RX7, TX7, 45, tyX7, rfl, by decide, igX7, rfl, (Or.inl (mt 577 (by decide +kernel) rfl)), tyX7_ok, nmX7, rfl, by decide +kernel⟩
theorem fl_X7_82 : FL RX7 82 7 41 := ⟨RX7, TX7, 45, rfl, by decide, igX7, rfl, (Or.inl (mt 578 (by decide +kernel) rfl))⟩
theorem fl_X7_85 : FL RX7 85 7 42 := ⟨RX7, TX7, 45, rfl, by decide, igX7, rfl, (Or.inl (mt 579 (by decide +kernel) rfl))⟩
theorem fl_X7_88 : FL RX7 88 7 43 := ⟨RX7, TX7, 45, rfl, by decide, igX7, rfl, (Or.inl (mt 580 (by decide +kernel) rfl))⟩
theorem fl_X7_91 : FL RX7 91 7 44 := ⟨RX7, TX7, 45, rfl, by decide, igX7, rfl, (Or.inl (mt 581 (by decide +kernel) rfl))⟩
theorem vc_L_17 : VC RL 17 7 yX7_variables cX7_variables 3 (some FieldType.int) 1 := ⟨TX7, 45, rfl, ⟨by decide +kernel, by decide +kernel, by decide +kernel⟩, by decide, (mt 676 (by decide +kernel) rfl), (mt 674 (by decide +kernel) rfl), (mt 675 (by decide +kernel) rfl), (mt 8 (by decide +kernel) rfl), (Or.inl (mt 673 (by decide +kernel) rfl))⟩
theorem kc_X7_104 : Cond.constantLong RX7 104 (4) ∈ tblG := mt 677 (by decide +kernel) rfl
theorem vc_X7_100 : VC RX7 100 7 yX7_isIn cX7_isIn 7 (some FieldType.boolean) 3 := ⟨TX7, 45, rfl, ⟨by decide +kernel, by decide +kernel, by decide +kernel⟩, by decide, (mt 681 (by decide +kernel) rfl), (mt 680 (by decide +kernel) rfl), (mp 21 (by decide +kernel) rfl), (mt 8 (by decide +kernel) rfl), (Or.inl (mt 678 (by decide +kernel) rfl))⟩
theorem vc_L_22 : VC RL 22 7 yX7_form cX7_form 2 (some FieldType.int) 0 := ⟨TX7, 45, rfl, ⟨by decide +kernel, by decide +kernel, by decide +kernel⟩, by decide, (mt 685 (by decide +kernel) rfl), (mt 683 (by decide +kernel) rfl), (mt 684 (by decide +kernel) rfl), (mt 8 (by decide +kernel) rfl), (Or.inl (mt 682 (by decide +kernel) rfl))⟩
theorem vc_L_27 : VC RL 27 7 yX7_term cX7_term 7 (some FieldType.int) 4 := ⟨TX7, 45, rfl, ⟨by decide +kernel, by decide +kernel, by decide +kernel⟩, by decide, (mt 689 (by decide +kernel) rfl), (mt 687 (by decide +kernel) rfl), (mt 688 (by decide +kernel) rfl), (mt 8 (by decide +kernel) rfl), (Or.inl (mt 686 (by decide +kernel) rfl))⟩
theorem vc_X7_116 : VC RX7 116 7 yX7_isForm cX7_isForm 2 (some FieldType.boolean) 1 := ⟨TX7, 45, rfl, ⟨by decide +kernel, by decide +kernel, by decide +kernel⟩, by decide, (mt 693 (by decide +kernel) rfl), (mt 692 (by decide +kernel) rfl), (mp 22 (by decide +kernel) rfl), (mt 8 (by decide +kernel) rfl), (Or.inl (mt 690 (by decide +kernel) rfl))⟩
theorem kc_X7_120 : Cond.constantLong RX7 120 (-1000000) ∈ tblG := mt 694 (by decide +kernel) rfl
theorem kc_X7_122 : Cond.constantLong RX7 122 (1000000) ∈ tblG := mt 695 (by decide +kernel) rfl
theorem kc_X7_124 : Cond.constant RX7 124 (-2000000) ∈ tblG := mt 696 (by decide +kernel) rfl
theorem vc_X7_125 : VC RX7 125 7 yX7_at cX7_at 3 (some FieldType.int) 2 := ⟨TX7, 45, rfl, ⟨by decide +kernel, by decide +kernel, by decide +kernel⟩, by decide, (mt 700 (by decide +kernel) rfl), (mt 699 (by decide +kernel) rfl), (mp 23 (by decide +kernel) rfl), (mt 8 (by decide +kernel) rfl), (Or.inl (mt 697 (by decide +kernel) rfl))⟩
theorem vc_L_32 : VC RL 32 7 yX7_value cX7_value 8 (some FieldType.long) 5 := ⟨TX7, 45, rfl, ⟨by decide +kernel, by decide +kernel, by decide +kernel⟩, by decide, (mt 704 (by decide +kernel) rfl), (mt 702 (by decide +kernel) rfl), (mt 703 (by decide +kernel) rfl), (mt 8 (by decide +kernel) rfl), (Or.inl (mt 701 (by decide +kernel) rfl))⟩
theorem kc_X7_129 : Cond.constantLong RX7 129 (-1000) ∈ tblG := mt 705 (by decide +kernel) rfl
theorem kc_X7_131 : Cond.constantLong RX7 131 (1000) ∈ tblG := mt 706 (by decide +kernel) rfl
theorem vc_X7_133 : VC RX7 133 7 yX7_worth cX7_worth 6 (some FieldType.long) 1 := ⟨TX7, 45, rfl, ⟨by decide +kernel, by decide +kernel, by decide +kernel⟩, by decide, (mt 710 (by decide +kernel) rfl), (mt 709 (by decide +kernel) rfl), (mp 24 (by decide +kernel) rfl), (mt 8 (by decide +kernel) rfl), (Or.inl (mt 707 (by decide +kernel) rfl))⟩
theorem kc_X7_137 : Cond.constantLong RX7 137 (-1) ∈ tblG := mt 711 (by decide +kernel) rfl
theorem vc_L_36 : VC RL 36 7 yX7_plain cX7_plain 6 (some FieldType.int) 1 := ⟨TX7, 45, rfl, ⟨by decide +kernel, by decide +kernel, by decide +kernel⟩, by decide, (mt 715 (by decide +kernel) rfl), (mt 713 (by decide +kernel) rfl), (mt 714 (by decide +kernel) rfl), (mt 8 (by decide +kernel) rfl), (Or.inl (mt 712 (by decide +kernel) rfl))⟩
theorem vc_X7_212 : VC RX7 212 7 yX7_save cX7_save 2 none 0 := ⟨TX7, 45, rfl, ⟨by decide +kernel, by decide +kernel, by decide +kernel⟩, by decide, (mt 719 (by decide +kernel) rfl), (mt 718 (by decide +kernel) rfl), (mp 25 (by decide +kernel) rfl), (mt 8 (by decide +kernel) rfl), (Or.inl (mt 716 (by decide +kernel) rfl))⟩
theorem vc_X7_215 : VC RX7 215 7 yX7_matrix cX7_matrix 7 none 1 := ⟨TX7, 45, rfl, ⟨by decide +kernel, by decide +kernel, by decide +kernel⟩, by decide, (mt 723 (by decide +kernel) rfl), (mt 722 (by decide +kernel) rfl), (mp 26 (by decide +kernel) rfl), (mt 8 (by decide +kernel) rfl), (Or.inl (mt 720 (by decide +kernel) rfl))⟩
theorem kc_X7_169 : Cond.constantLong RX7 169 (2) ∈ tblG := mt 724 (by decide +kernel) rfl
theorem vc_X7_195 : VC RX7 195 7 yX7_begin cX7_begin 1 none 0 := ⟨TX7, 45, rfl, ⟨by decide +kernel, by decide +kernel, by decide +kernel⟩, by decide, (mt 728 (by decide +kernel) rfl), (mt 727 (by decide +kernel) rfl), (mp 27 (by decide +kernel) rfl), (mt 8 (by decide +kernel) rfl), (Or.inl (mt 725 (by decide +kernel) rfl))⟩
theorem vc_X7_171 : VC RX7 171 7 yX7_inOrder cX7_inOrder 2 (some FieldType.int) 1 := ⟨TX7, 45, rfl, ⟨by decide +kernel, by decide +kernel, by decide +kernel⟩, by decide, (mt 732 (by decide +kernel) rfl), (mt 731 (by decide +kernel) rfl), (mp 28 (by decide +kernel) rfl), (mt 8 (by decide +kernel) rfl), (Or.inl (mt 729 (by decide +kernel) rfl))⟩
theorem vc_X7_208 : VC RX7 208 7 yX7_divide cX7_divide 7 none 1 := ⟨TX7, 45, rfl, ⟨by decide +kernel, by decide +kernel, by decide +kernel⟩, by decide, (mt 736 (by decide +kernel) rfl), (mt 735 (by decide +kernel) rfl), (mp 29 (by decide +kernel) rfl), (mt 8 (by decide +kernel) rfl), (Or.inl (mt 733 (by decide +kernel) rfl))⟩
theorem vc_X7_154 : VC RX7 154 7 yX7_isWrong cX7_isWrong 1 (some FieldType.boolean) 0 := ⟨TX7, 45, rfl, ⟨by decide +kernel, by decide +kernel, by decide +kernel⟩, by decide, (mt 740 (by decide +kernel) rfl), (mt 739 (by decide +kernel) rfl), (mp 30 (by decide +kernel) rfl), (mt 8 (by decide +kernel) rfl), (Or.inl (mt 737 (by decide +kernel) rfl))⟩
theorem vc_X7_175 : VC RX7 175 7 yX7_quotient cX7_quotient 11 none 4 := ⟨TX7, 45, rfl, ⟨by decide +kernel, by decide +kernel, by decide +kernel⟩, by decide, (mt 744 (by decide +kernel) rfl), (mt 743 (by decide +kernel) rfl), (mp 31 (by decide +kernel) rfl), (mt 8 (by decide +kernel) rfl), (Or.inl (mt 741 (by decide +kernel) rfl))⟩
theorem vc_X7_158 : VC RX7 158 7 yX7_times cX7_times 8 (some FieldType.long) 2 := ⟨TX7, 45, rfl, ⟨by decide +kernel, by decide +kernel, by decide +kernel⟩, by decide, (mt 748 (by decide +kernel) rfl), (mt 747 (by decide +kernel) rfl), (mp 32 (by decide +kernel) rfl), (mt 8 (by decide +kernel) rfl), (Or.inl (mt 745 (by decide +kernel) rfl))⟩
theorem kc_X7_145 : Cond.constantLong RX7 145 (-9223372036854775808) ∈ tblG := mt 749 (by decide +kernel) rfl
theorem vc_X7_165 : VC RX7 165 7 yX7_lowest cX7_lowest 11 none 2 := ⟨TX7, 45, rfl, ⟨by decide +kernel, by decide +kernel, by decide +kernel⟩, by decide, (mt 753 (by decide +kernel) rfl), (mt 752 (by decide +kernel) rfl), (mp 33 (by decide +kernel) rfl), (mt 8 (by decide +kernel) rfl), (Or.inl (mt 750 (by decide +kernel) rfl))⟩
theorem vc_X7_179 : VC RX7 179 7 yX7_product cX7_product 11 none 4 := ⟨TX7, 45, rfl, ⟨by decide +kernel, by decide +kernel, by decide +kernel⟩, by decide, (mt 757 (by decide +kernel) rfl), (mt 756 (by decide +kernel) rfl), (mp 34 (by decide +kernel) rfl), (mt 8 (by decide +kernel) rfl), (Or.inl (mt 754 (by decide +kernel) rfl))⟩
theorem vc_X7_182 : VC RX7 182 7 yX7_difference cX7_difference 15 none 4 := ⟨TX7, 45, rfl, ⟨by decide +kernel, by decide +kernel, by decide +kernel⟩, by decide, (mt 761 (by decide +kernel) rfl), (mt 760 (by decide +kernel) rfl), (mp 35 (by decide +kernel) rfl), (mt 8 (by decide +kernel) rfl), (Or.inl (mt 758 (by decide +kernel) rfl))⟩
theorem vc_X7_162 : VC RX7 162 7 yX7_add cX7_add 7 (some FieldType.long) 2 := ⟨TX7, 45, rfl, ⟨by decide +kernel, by decide +kernel, by decide +kernel⟩, by decide, (mt 765 (by decide +kernel) rfl), (mt 764 (by decide +kernel) rfl), (mp 36 (by decide +kernel) rfl), (mt 8 (by decide +kernel) rfl), (Or.inl (mt 762 (by decide +kernel) rfl))⟩
theorem vc_X7_185 : VC RX7 185 7 yX7_into cX7_into 3 none 2 := ⟨TX7, 45, rfl, ⟨by decide +kernel, by decide +kernel, by decide +kernel⟩, by decide, (mt 769 (by decide +kernel) rfl), (mt 768 (by decide +kernel) rfl), (mp 37 (by decide +kernel) rfl), (mt 8 (by decide +kernel) rfl), (Or.inl (mt 766 (by decide +kernel) rfl))⟩
theorem vc_X7_218 : VC RX7 218 7 yX7_restore cX7_restore 2 none 0 := ⟨TX7, 45, rfl, ⟨by decide +kernel, by decide +kernel, by decide +kernel⟩, by decide, (mt 773 (by decide +kernel) rfl), (mt 772 (by decide +kernel) rfl), (mp 38 (by decide +kernel) rfl), (mt 8 (by decide +kernel) rfl), (Or.inl (mt 770 (by decide +kernel) rfl))⟩
theorem vc_L_40 : VC RL 40 7 yX7_prove cX7_prove 3 (some FieldType.int) 1 := ⟨TX7, 45, rfl, ⟨by decide +kernel, by decide +kernel, by decide +kernel⟩, by decide, (mt 777 (by decide +kernel) rfl), (mt 775 (by decide +kernel) rfl), (mt 776 (by decide +kernel) rfl), (mt 8 (by decide +kernel) rfl), (Or.inl (mt 774 (by decide +kernel) rfl))⟩
theorem vc_X7_251 : VC RX7 251 7 yX7_beginProof cX7_beginProof 3 none 2 := ⟨TX7, 45, rfl, ⟨by decide +kernel, by decide +kernel, by decide +kernel⟩, by decide, (mt 781 (by decide +kernel) rfl), (mt 780 (by decide +kernel) rfl), (mp 39 (by decide +kernel) rfl), (mt 8 (by decide +kernel) rfl), (Or.inl (mt 778 (by decide +kernel) rfl))⟩
theorem vc_X7_254 : VC RX7 254 7 yX7_keepMatrix cX7_keepMatrix 2 none 0 := ⟨TX7, 45, rfl, ⟨by decide +kernel, by decide +kernel, by decide +kernel⟩, by decide, (mt 785 (by decide +kernel) rfl), (mt 784 (by decide +kernel) rfl), (mp 40 (by decide +kernel) rfl), (mt 8 (by decide +kernel) rfl), (Or.inl (mt 782 (by decide +kernel) rfl))⟩
theorem vc_X7_257 : VC RX7 257 7 yX7_eliminate cX7_eliminate 2 (some FieldType.int) 0 := ⟨TX7, 45, rfl, ⟨by decide +kernel, by decide +kernel, by decide +kernel⟩, by decide, (mt 789 (by decide +kernel) rfl), (mt 788 (by decide +kernel) rfl), (mp 41 (by decide +kernel) rfl), (mt 8 (by decide +kernel) rfl), (Or.inl (mt 786 (by decide +kernel) rfl))⟩
theorem vc_X7_198 : VC RX7 198 7 yX7_firstDiagonal cX7_firstDiagonal 6 (some FieldType.int) 1 := ⟨TX7, 45, rfl, ⟨by decide +kernel, by decide +kernel, by decide +kernel⟩, by decide, (mt 793 (by decide +kernel) rfl), (mt 792 (by decide +kernel) rfl), (mp 42 (by decide +kernel) rfl), (mt 8 (by decide +kernel) rfl), (Or.inl (mt 790 (by decide +kernel) rfl))⟩
theorem vc_X7_205 : VC RX7 205 7 yX7_findPair cX7_findPair 5 (some FieldType.boolean) 0 := ⟨TX7, 45, rfl, ⟨by decide +kernel, by decide +kernel, by decide +kernel⟩, by decide, (mt 797 (by decide +kernel) rfl), (mt 796 (by decide +kernel) rfl), (mp 43 (by decide +kernel) rfl), (mt 8 (by decide +kernel) rfl), (Or.inl (mt 794 (by decide +kernel) rfl))⟩
theorem vc_X7_261 : VC RX7 261 7 yX7_pointBy cX7_pointBy 4 (some FieldType.boolean) 1 := ⟨TX7, 45, rfl, ⟨by decide +kernel, by decide +kernel, by decide +kernel⟩, by decide, (mt 801 (by decide +kernel) rfl), (mt 800 (by decide +kernel) rfl), (mp 44 (by decide +kernel) rfl), (mt 8 (by decide +kernel) rfl), (Or.inl (mt 798 (by decide +kernel) rfl))⟩
theorem vc_X7_227 : VC RX7 227 7 yX7_noWitness cX7_noWitness 2 none 0 := ⟨TX7, 45, rfl, ⟨by decide +kernel, by decide +kernel, by decide +kernel⟩, by decide, (mt 805 (by decide +kernel) rfl), (mt 804 (by decide +kernel) rfl), (mp 45 (by decide +kernel) rfl), (mt 8 (by decide +kernel) rfl), (Or.inl (mt 802 (by decide +kernel) rfl))⟩
theorem vc_X7_230 : VC RX7 230 7 yX7_goBack cX7_goBack 8 none 0 := ⟨TX7, 45, rfl, ⟨by decide +kernel, by decide +kernel, by decide +kernel⟩, by decide, (mt 809 (by decide +kernel) rfl), (mt 808 (by decide +kernel) rfl), (mp 46 (by decide +kernel) rfl), (mt 8 (by decide +kernel) rfl), (Or.inl (mt 806 (by decide +kernel) rfl))⟩
theorem vc_X7_224 : VC RX7 224 7 yX7_sum cX7_sum 15 none 4 := ⟨TX7, 45, rfl, ⟨by decide +kernel, by decide +kernel, by decide +kernel⟩, by decide, (mt 813 (by decide +kernel) rfl), (mt 812 (by decide +kernel) rfl), (mp 47 (by decide +kernel) rfl), (mt 8 (by decide +kernel) rfl), (Or.inl (mt 810 (by decide +kernel) rfl))⟩
theorem vc_X7_233 : VC RX7 233 7 yX7_isBelow cX7_isBelow 8 (some FieldType.boolean) 1 := ⟨TX7, 45, rfl, ⟨by decide +kernel, by decide +kernel, by decide +kernel⟩, by decide, (mt 817 (by decide +kernel) rfl), (mt 816 (by decide +kernel) rfl), (mp 48 (by decide +kernel) rfl), (mt 8 (by decide +kernel) rfl), (Or.inl (mt 814 (by decide +kernel) rfl))⟩
theorem vc_X7_264 : VC RX7 264 7 yX7_end cX7_end 2 (some FieldType.int) 1 := ⟨TX7, 45, rfl, ⟨by decide +kernel, by decide +kernel, by decide +kernel⟩, by decide, (mt 821 (by decide +kernel) rfl), (mt 820 (by decide +kernel) rfl), (mp 49 (by decide +kernel) rfl), (mt 8 (by decide +kernel) rfl), (Or.inl (mt 818 (by decide +kernel) rfl))⟩
theorem vc_L_45 : VC RL 45 7 yX7_under cX7_under 6 (some FieldType.int) 3 := ⟨TX7, 45, rfl, ⟨by decide +kernel, by decide +kernel, by decide +kernel⟩, by decide, (mt 825 (by decide +kernel) rfl), (mt 823 (by decide +kernel) rfl), (mt 824 (by decide +kernel) rfl), (mt 8 (by decide +kernel) rfl), (Or.inl (mt 822 (by decide +kernel) rfl))⟩
theorem kc_X7_267 : Cond.constantLong RX7 267 (20) ∈ tblG := mt 826 (by decide +kernel) rfl
theorem vc_X7_269 : VC RX7 269 7 yX7_isLowest cX7_isLowest 6 (some FieldType.boolean) 2 := ⟨TX7, 45, rfl, ⟨by decide +kernel, by decide +kernel, by decide +kernel⟩, by decide, (mt 830 (by decide +kernel) rfl), (mt 829 (by decide +kernel) rfl), (mp 50 (by decide +kernel) rfl), (mt 8 (by decide +kernel) rfl), (Or.inl (mt 827 (by decide +kernel) rfl))⟩
theorem vc_X7_273 : VC RX7 273 7 yX7_isDoneBy cX7_isDoneBy 6 (some FieldType.boolean) 2 := ⟨TX7, 45, rfl, ⟨by decide +kernel, by decide +kernel, by decide +kernel⟩, by decide, (mt 834 (by decide +kernel) rfl), (mt 833 (by decide +kernel) rfl), (mp 51 (by decide +kernel) rfl), (mt 8 (by decide +kernel) rfl), (Or.inl (mt 831 (by decide +kernel) rfl))⟩
theorem vc_X7_276 : VC RX7 276 7 yX7_isThere cX7_isThere 5 (some FieldType.boolean) 0 := ⟨TX7, 45, rfl, ⟨by decide +kernel, by decide +kernel, by decide +kernel⟩, by decide, (mt 838 (by decide +kernel) rfl), (mt 837 (by decide +kernel) rfl), (mp 52 (by decide +kernel) rfl), (mt 8 (by decide +kernel) rfl), (Or.inl (mt 835 (by decide +kernel) rfl))⟩
theorem vc_L_49 : VC RL 49 7 yX7_told cX7_told 2 (some FieldType.int) 1 := ⟨TX7, 45, rfl, ⟨by decide +kernel, by decide +kernel, by decide +kernel⟩, by decide, (mt 842 (by decide +kernel) rfl), (mt 840 (by decide +kernel) rfl), (mt 841 (by decide +kernel) rfl), (mt 8 (by decide +kernel) rfl), (Or.inl (mt 839 (by decide +kernel) rfl))⟩
theorem kc_X7_279 : Cond.constantLong RX7 279 (6) ∈ tblG := mt 843 (by decide +kernel) rfl
theorem vc_L_54 : VC RL 54 7 yX7_weight cX7_weight 3 (some FieldType.long) 2 := ⟨TX7, 45, rfl, ⟨by decide +kernel, by decide +kernel, by decide +kernel⟩, by decide, (mt 847 (by decide +kernel) rfl), (mt 845 (by decide +kernel) rfl), (mt 846 (by decide +kernel) rfl), (mt 8 (by decide +kernel) rfl), (Or.inl (mt 844 (by decide +kernel) rfl))⟩
theorem vc_X7_281 : VC RX7 281 7 yX7_isSquare cX7_isSquare 2 (some FieldType.boolean) 1 := ⟨TX7, 45, rfl, ⟨by decide +kernel, by decide +kernel, by decide +kernel⟩, by decide, (mt 851 (by decide +kernel) rfl), (mt 850 (by decide +kernel) rfl), (mp 53 (by decide +kernel) rfl), (mt 8 (by decide +kernel) rfl), (Or.inl (mt 848 (by decide +kernel) rfl))⟩
theorem vc_L_59 : VC RL 59 7 yX7_line cX7_line 4 (some FieldType.long) 3 := ⟨TX7, 45, rfl, ⟨by decide +kernel, by decide +kernel, by decide +kernel⟩, by decide, (mt 855 (by decide +kernel) rfl), (mt 853 (by decide +kernel) rfl), (mt 854 (by decide +kernel) rfl), (mt 8 (by decide +kernel) rfl), (Or.inl (mt 852 (by decide +kernel) rfl))⟩
theorem vc_L_63 : VC RL 63 7 yX7_point cX7_point 3 (some FieldType.long) 2 := ⟨TX7, 45, rfl, ⟨by decide +kernel, by decide +kernel, by decide +kernel⟩, by decide, (mt 859 (by decide +kernel) rfl), (mt 857 (by decide +kernel) rfl), (mt 858 (by decide +kernel) rfl), (mt 8 (by decide +kernel) rfl), (Or.inl (mt 856 (by decide +kernel) rfl))⟩
theorem vc_L_68 : VC RL 68 7 yX7_near cX7_near 2 (some FieldType.long) 1 := ⟨TX7, 45, rfl, ⟨by decide +kernel, by decide +kernel, by decide +kernel⟩, by decide, (mt 863 (by decide +kernel) rfl), (mt 861 (by decide +kernel) rfl), (mt 862 (by decide +kernel) rfl), (mt 8 (by decide +kernel) rfl), (Or.inl (mt 860 (by decide +kernel) rfl))⟩
theorem sc_X7_284 : SC RX7 284 yJxe99ae_doubleToLongBits_ccdee cJxe99ae_doubleToLongBits_ccdee 2 (some FieldType.long) 1 := ⟨⟨by decide +kernel, by decide +kernel, by decide +kernel⟩, by decide, (mt 866 (by decide +kernel) rfl), (mt 865 (by decide +kernel) rfl), (mt 13 (by decide +kernel) rfl), (Or.inl (mt 864 (by decide +kernel) rfl))⟩
theorem sc_Jxe99ae_122 : SC RJxe99ae 122 yJxe99ae_isNaN_b9ae7 cJxe99ae_isNaN_b9ae7 2 (some FieldType.boolean) 1 := ⟨⟨by decide +kernel, by decide +kernel, by decide +kernel⟩, by decide, (mt 869 (by decide +kernel) rfl), (mt 868 (by decide +kernel) rfl), (mt 13 (by decide +kernel) rfl), (Or.inl (mt 867 (by decide +kernel) rfl))⟩
theorem kc_Jxe99ae_137 : Cond.constantLong RJxe99ae 137 (9221120237041090560) ∈ tblG := mt 873 (by decide +kernel) rfl
theorem vc_L_75 : VC RL 75 7 yX7_plant cX7_plant 6 (some FieldType.int) 3 := ⟨TX7, 45, rfl, ⟨by decide +kernel, by decide +kernel, by decide +kernel⟩, by decide, (mt 877 (by decide +kernel) rfl), (mt 875 (by decide +kernel) rfl), (mt 876 (by decide +kernel) rfl), (mt 8 (by decide +kernel) rfl), (Or.inl (mt 874 (by decide +kernel) rfl))⟩
theorem vc_L_79 : VC RL 79 7 yX7_check cX7_check 5 (some FieldType.int) 0 := ⟨TX7, 45, rfl, ⟨by decide +kernel, by decide +kernel, by decide +kernel⟩, by decide, (mt 881 (by decide +kernel) rfl), (mt 879 (by decide +kernel) rfl), (mt 880 (by decide +kernel) rfl), (mt 8 (by decide +kernel) rfl), (Or.inl (mt 878 (by decide +kernel) rfl))⟩
theorem vc_L_83 : VC RL 83 7 yX7_equal cX7_equal 3 (some FieldType.int) 0 := ⟨TX7, 45, rfl, ⟨by decide +kernel, by decide +kernel, by decide +kernel⟩, by decide, (mt 885 (by decide +kernel) rfl), (mt 883 (by decide +kernel) rfl), (mt 884 (by decide +kernel) rfl), (mt 8 (by decide +kernel) rfl), (Or.inl (mt 882 (by decide +kernel) rfl))⟩
theorem vc_L_88 : VC RL 88 7 yX7_pivot cX7_pivot 5 (some FieldType.long) 2 := ⟨TX7, 45, rfl, ⟨by decide +kernel, by decide +kernel, by decide +kernel⟩, by decide, (mt 889 (by decide +kernel) rfl), (mt 887 (by decide +kernel) rfl), (mt 888 (by decide +kernel) rfl), (mt 8 (by decide +kernel) rfl), (Or.inl (mt 886 (by decide +kernel) rfl))⟩
theorem kc_X7_290 : Cond.constantLong RX7 290 (-30) ∈ tblG := mt 890 (by decide +kernel) rfl
theorem vc_L_92 : VC RL 92 7 yX7_count cX7_count 2 (some FieldType.int) 1 := ⟨TX7, 45, rfl, ⟨by decide +kernel, by decide +kernel, by decide +kernel⟩, by decide, (mt 894 (by decide +kernel) rfl), (mt 892 (by decide +kernel) rfl), (mt 893 (by decide +kernel) rfl), (mt 8 (by decide +kernel) rfl), (Or.inl (mt 891 (by decide +kernel) rfl))⟩
theorem kc_L_69 : Cond.constantLong RL 69 (4294967295) ∈ tblG := mt 895 (by decide +kernel) rfl
end
section
/-! ===== rows with shapes as facts, and with numbers ===== -/
def Ob (rg : RgT) (o ci : Nat) (fs : List (Nat × Nat)) : Prop := o < rg.1 ∧ ∃ (n : Nat) (tg : Nat → Nat), rg.2 o = (ci + 6, n, tg, fs)
def Ar (rg : RgT) (o kind n : Nat) : Prop := o < rg.1 ∧ ∃ (tg : Nat → Nat) (fs : List (Nat × Nat)), rg.2 o = (kind, n, tg, fs)
def Rr (rg : RgT) (o kind n : Nat) (tg : Nat → Nat) : Prop := o < rg.1 ∧ ∃ (fs : List (Nat × Nat)), rg.2 o = (kind, n, tg, fs)
abbrev shF : List (Nat × Nat) := [(1, 0), (1, 0)]
abbrev isF (rg : RgT) (o : Nat) : Prop := Ob rg o 2 shF
theorem fits_int (x : Int32) : fits .int (.int x) = true := by first | rfl | simp [fits] | decide
theorem fits_long (x : Int64) : fits .long (.long x) = true := by first | rfl | simp [fits] | decide
section GROWS
variable {p : Program} {l : Launch} {e : Env} {R : Room} {s : State} {m : MethodId} {args : Array Value} {below : List Frame} {meth : Method} {c : Code} {Q : State → Prop} {cc : ByteArray} {nL : Nat} {own : String} {G : GT} {rg : RgT} {kc ks : Nat} {I : II} {L : LL} {pc : Nat} {lv : LV} {st : List Value}
theorem g_getI (C : Cx p s m args meth c cc nL own G) {idx ci q z o : Nat} {fs : List (Nat × Nat)} (ob : Ob rg o ci fs) (fl : FL own idx ci q) (hq : fs[q]? = some (0, z)) (d : decode cc pc = .ok (.getfield idx, 3)) (k : J p l e R s m args below meth c Q nL G rg kc ks I L (pc + 3) lv (.int (I o q) :: st)) : J p l e R s m args below meth c Q nL G rg kc ks I L pc lv (.ref (gB G + o) :: st) := by
  obtain ⟨ho, n, tg, hs⟩ := ob
  exact j_getI C fl ho hs rfl hq d k
theorem g_getL (C : Cx p s m args meth c cc nL own G) {idx ci q z o : Nat} {fs : List (Nat × Nat)} (ob : Ob rg o ci fs) (fl : FL own idx ci q) (hq : fs[q]? = some (1, z)) (d : decode cc pc = .ok (.getfield idx, 3)) (k : J p l e R s m args below meth c Q nL G rg kc ks I L (pc + 3) lv (.long (L o q) :: st)) : J p l e R s m args below meth c Q nL G rg kc ks I L pc lv (.ref (gB G + o) :: st) := by
  obtain ⟨ho, n, tg, hs⟩ := ob
  exact j_getL C fl ho hs rfl hq d k
theorem g_getR (C : Cx p s m args meth c cc nL own G) {idx ci q z o : Nat} {fs : List (Nat × Nat)} (ob : Ob rg o ci fs) (fl : FL own idx ci q) (hq : fs[q]? = some (2, z)) (d : decode cc pc = .ok (.getfield idx, 3)) (k : J p l e R s m args below meth c Q nL G rg kc ks I L (pc + 3) lv (.ref (gB G + z) :: st)) : J p l e R s m args below meth c Q nL G rg kc ks I L pc lv (.ref (gB G + o) :: st) := by
  obtain ⟨ho, n, tg, hs⟩ := ob
  exact j_getR C fl ho hs rfl hq d k
theorem g_putI (C : Cx p s m args meth c cc nL own G) {idx ci q z o : Nat} {fs : List (Nat × Nat)} {ty : FieldType} {v : Int32} (ob : Ob rg o ci fs) (fl : FW own idx ci q ty) (hq : fs[q]? = some (0, z)) (hn : narrow ty (.int v) = .int v) (hfit : fits ty (.int v) = true) (d : decode cc pc = .ok (.putfield idx, 3)) (k : J p l e R s m args below meth c Q nL G rg kc ks (up2 I o q v) L (pc + 3) lv st) : J p l e R s m args below meth c Q nL G rg kc ks I L pc lv (.int v :: .ref (gB G + o) :: st) := by
  obtain ⟨ho, n, tg, hs⟩ := ob
  exact j_putI C fl ho hs rfl hq hn hfit d k
theorem g_putL (C : Cx p s m args meth c cc nL own G) {idx ci q z o : Nat} {fs : List (Nat × Nat)} {ty : FieldType} {v : Int64} (ob : Ob rg o ci fs) (fl : FW own idx ci q ty) (hq : fs[q]? = some (1, z)) (hn : narrow ty (.long v) = .long v) (hfit : fits ty (.long v) = true) (d : decode cc pc = .ok (.putfield idx, 3)) (k : J p l e R s m args below meth c Q nL G rg kc ks I (up2 L o q v) (pc + 3) lv st) : J p l e R s m args below meth c Q nL G rg kc ks I L pc lv (.long v :: .ref (gB G + o) :: st) := by
  obtain ⟨ho, n, tg, hs⟩ := ob
  exact j_putL C fl ho hs rfl hq hn hfit d k
theorem g_iald (C : Cx p s m args meth c cc nL own G) {o i n : Nat} (ar : Ar rg o 0 n) (hi : i < n) (hn : n < 2 ^ 31) (d : decode cc pc = .ok (.iaload, 1)) (k : J p l e R s m args below meth c Q nL G rg kc ks I L (pc + 1) lv (.int (I o i) :: st)) : J p l e R s m args below meth c Q nL G rg kc ks I L pc lv (.int (nI i) :: .ref (gB G + o) :: st) := by
  obtain ⟨ho, tg, fs, hs⟩ := ar
  refine j_iald C ho hs rfl (vp_in_nI hi hn) d ?_
  rw [nI_clamp (Nat.lt_trans hi hn)]
  exact k
theorem g_lald (C : Cx p s m args meth c cc nL own G) {o i n : Nat} (ar : Ar rg o 1 n) (hi : i < n) (hn : n < 2 ^ 31) (d : decode cc pc = .ok (.laload, 1)) (k : J p l e R s m args below meth c Q nL G rg kc ks I L (pc + 1) lv (.long (L o i) :: st)) : J p l e R s m args below meth c Q nL G rg kc ks I L pc lv (.int (nI i) :: .ref (gB G + o) :: st) := by
  obtain ⟨ho, tg, fs, hs⟩ := ar
  refine j_lald C ho hs rfl (vp_in_nI hi hn) d ?_
  rw [nI_clamp (Nat.lt_trans hi hn)]
  exact k
theorem g_zald (C : Cx p s m args meth c cc nL own G) {o i n : Nat} (ar : Ar rg o 2 n) (hi : i < n) (hn : n < 2 ^ 31) (d : decode cc pc = .ok (.baload, 1)) (k : J p l e R s m args below meth c Q nL G rg kc ks I L (pc + 1) lv (.int (I o i) :: st)) : J p l e R s m args below meth c Q nL G rg kc ks I L pc lv (.int (nI i) :: .ref (gB G + o) :: st) := by
  obtain ⟨ho, tg, fs, hs⟩ := ar
  refine j_zald C ho hs rfl (vp_in_nI hi hn) d ?_
  rw [nI_clamp (Nat.lt_trans hi hn)]
  exact k
theorem g_iast (C : Cx p s m args meth c cc nL own G) {o i n : Nat} {x : Int32} (ar : Ar rg o 0 n) (hi : i < n) (hn : n < 2 ^ 31)  (d : decode cc pc = .ok (.iastore, 1)) (k : J p l e R s m args below meth c Q nL G rg kc ks (up2 I o i x) L (pc + 1) lv st) : J p l e R s m args below meth c Q nL G rg kc ks I L pc lv (.int x :: .int (nI i) :: .ref (gB G + o) :: st) := by
  obtain ⟨ho, tg, fs, hs⟩ := ar
  refine j_iast C ho hs rfl (vp_in_nI hi hn)  d ?_
  rw [nI_clamp (Nat.lt_trans hi hn)]
  exact k
theorem g_last (C : Cx p s m args meth c cc nL own G) {o i n : Nat} {x : Int64} (ar : Ar rg o 1 n) (hi : i < n) (hn : n < 2 ^ 31)  (d : decode cc pc = .ok (.lastore, 1)) (k : J p l e R s m args below meth c Q nL G rg kc ks I (up2 L o i x) (pc + 1) lv st) : J p l e R s m args below meth c Q nL G rg kc ks I L pc lv (.long x :: .int (nI i) :: .ref (gB G + o) :: st) := by
  obtain ⟨ho, tg, fs, hs⟩ := ar
  refine j_last C ho hs rfl (vp_in_nI hi hn)  d ?_
  rw [nI_clamp (Nat.lt_trans hi hn)]
  exact k
theorem g_zast (C : Cx p s m args meth c cc nL own G) {o i n : Nat} {x : Int32} (ar : Ar rg o 2 n) (hi : i < n) (hn : n < 2 ^ 31) (hnar : vp_nar .boolean x = x) (d : decode cc pc = .ok (.bastore, 1)) (k : J p l e R s m args below meth c Q nL G rg kc ks (up2 I o i x) L (pc + 1) lv st) : J p l e R s m args below meth c Q nL G rg kc ks I L pc lv (.int x :: .int (nI i) :: .ref (gB G + o) :: st) := by
  obtain ⟨ho, tg, fs, hs⟩ := ar
  refine j_zast C ho hs rfl (vp_in_nI hi hn) hnar d ?_
  rw [nI_clamp (Nat.lt_trans hi hn)]
  exact k
theorem g_aald3 (C : Cx p s m args meth c cc nL own G) {o i n : Nat} {tg : Nat → Nat} {t : Nat} (ar : Rr rg o 3 n tg) (hi : i < n) (hn : n < 2 ^ 31) (ht : tg i = t) (h0 : t ≠ 0) (d : decode cc pc = .ok (.aaload, 1)) (k : J p l e R s m args below meth c Q nL G rg kc ks I L (pc + 1) lv (.ref (gB G + t) :: st)) : J p l e R s m args below meth c Q nL G rg kc ks I L pc lv (.int (nI i) :: .ref (gB G + o) :: st) := by
  obtain ⟨ho, fs, hs⟩ := ar
  exact j_aald3 C ho hs rfl (vp_in_nI hi hn) (by rw [nI_clamp (Nat.lt_trans hi hn)]; exact ht) h0 d k
theorem g_aald4 (C : Cx p s m args meth c cc nL own G) {o i n : Nat} {tg : Nat → Nat} {t : Nat} (ar : Rr rg o 4 n tg) (hi : i < n) (hn : n < 2 ^ 31) (ht : tg i = t) (h0 : t ≠ 0) (d : decode cc pc = .ok (.aaload, 1)) (k : J p l e R s m args below meth c Q nL G rg kc ks I L (pc + 1) lv (.ref (gB G + t) :: st)) : J p l e R s m args below meth c Q nL G rg kc ks I L pc lv (.int (nI i) :: .ref (gB G + o) :: st) := by
  obtain ⟨ho, fs, hs⟩ := ar
  exact j_aald4 C ho hs rfl (vp_in_nI hi hn) (by rw [nI_clamp (Nat.lt_trans hi hn)]; exact ht) h0 d k
theorem g_aald5 (C : Cx p s m args meth c cc nL own G) {o i n : Nat} {tg : Nat → Nat} {t : Nat} (ar : Rr rg o 5 n tg) (hi : i < n) (hn : n < 2 ^ 31) (ht : tg i = t) (h0 : t ≠ 0) (d : decode cc pc = .ok (.aaload, 1)) (k : J p l e R s m args below meth c Q nL G rg kc ks I L (pc + 1) lv (.ref (gB G + t) :: st)) : J p l e R s m args below meth c Q nL G rg kc ks I L pc lv (.int (nI i) :: .ref (gB G + o) :: st) := by
  obtain ⟨ho, fs, hs⟩ := ar
  exact j_aald5 C ho hs rfl (vp_in_nI hi hn) (by rw [nI_clamp (Nat.lt_trans hi hn)]; exact ht) h0 d k
theorem g_alen (C : Cx p s m args meth c cc nL own G) {o kind n : Nat} (ar : Ar rg o kind n) (hk : kind < 6) (d : decode cc pc = .ok (.arraylength, 1)) (k : J p l e R s m args below meth c Q nL G rg kc ks I L (pc + 1) lv (.int (nI n) :: st)) : J p l e R s m args below meth c Q nL G rg kc ks I L pc lv (.ref (gB G + o) :: st) := by
  obtain ⟨ho, tg, fs, hs⟩ := ar
  exact j_alen C ho hs hk rfl d k
theorem g_alenR (C : Cx p s m args meth c cc nL own G) {o kind n : Nat} {tg : Nat → Nat} (ar : Rr rg o kind n tg) (hk : kind < 6) (d : decode cc pc = .ok (.arraylength, 1)) (k : J p l e R s m args below meth c Q nL G rg kc ks I L (pc + 1) lv (.int (nI n) :: st)) : J p l e R s m args below meth c Q nL G rg kc ks I L pc lv (.ref (gB G + o) :: st) := by
  obtain ⟨ho, fs, hs⟩ := ar
  exact j_alen C ho hs hk rfl d k
theorem t_i {x y : Int32} (h : x = y) (k : J p l e R s m args below meth c Q nL G rg kc ks I L pc lv (.int y :: st)) : J p l e R s m args below meth c Q nL G rg kc ks I L pc lv (.int x :: st) := h ▸ k
theorem t_i2 {w : Value} {x y : Int32} (h : x = y) (k : J p l e R s m args below meth c Q nL G rg kc ks I L pc lv (w :: .int y :: st)) : J p l e R s m args below meth c Q nL G rg kc ks I L pc lv (w :: .int x :: st) := h ▸ k
theorem t_l {x y : Int64} (h : x = y) (k : J p l e R s m args below meth c Q nL G rg kc ks I L pc lv (.long y :: st)) : J p l e R s m args below meth c Q nL G rg kc ks I L pc lv (.long x :: st) := h ▸ k
theorem t_r {x y : Nat} (h : x = y) (k : J p l e R s m args below meth c Q nL G rg kc ks I L pc lv (.ref (gB G + y) :: st)) : J p l e R s m args below meth c Q nL G rg kc ks I L pc lv (.ref (gB G + x) :: st) := h ▸ k
theorem t_gi {x : Int32} (k : ∀ y : Int32, y = x → J p l e R s m args below meth c Q nL G rg kc ks I L pc lv (.int y :: st)) : J p l e R s m args below meth c Q nL G rg kc ks I L pc lv (.int x :: st) := k x rfl
theorem t_gl {x : Int64} (k : ∀ y : Int64, y = x → J p l e R s m args below meth c Q nL G rg kc ks I L pc lv (.long y :: st)) : J p l e R s m args below meth c Q nL G rg kc ks I L pc lv (.long x :: st) := k x rfl
theorem t_IL {I1 : II} {L1 : LL} (h : I = I1) (h2 : L = L1) (k : J p l e R s m args below meth c Q nL G rg kc ks I1 L1 pc lv st) : J p l e R s m args below meth c Q nL G rg kc ks I L pc lv st := by subst h; subst h2; exact k
theorem t_lv {lv1 : LV} (h : lv = lv1) (k : J p l e R s m args below meth c Q nL G rg kc ks I L pc lv1 st) : J p l e R s m args below meth c Q nL G rg kc ks I L pc lv st := by subst h; exact k
def rm1 : LV → Nat → LV
  | [], _ => []
  | _ :: r, 0 => none :: r
  | a :: r, n + 1 => a :: rm1 r n
theorem rm1_get : ∀ (lv : LV) (n i : Nat) (v : Value), (rm1 lv n)[i]? = some (some v) → lv[i]? = some (some v)
  | [], _, _, _, h => h
  | a :: r, 0, 0, v, h => by simp [rm1] at h
  | a :: r, 0, i + 1, v, h => by simpa [rm1] using h
  | a :: r, n + 1, 0, v, h => by simpa [rm1] using h
  | a :: r, n + 1, i + 1, v, h => by
    rw [rm1, List.getElem?_cons_succ] at h
    rw [List.getElem?_cons_succ]
    exact rm1_get r n i v h
theorem j_rm (i : Nat) (k : J p l e R s m args below meth c Q nL G rg kc ks I L pc (rm1 lv i) st) : J p l e R s m args below meth c Q nL G rg kc ks I L pc lv st := by
  intro H locs ls hP hS hl
  refine k H locs ls hP hS ⟨hl.1, hl.2.1, fun q hq => ?_⟩
  obtain ⟨j, h1, h2⟩ := asl_inv _ _ _ hq
  rw [Nat.zero_add] at h1
  have h3 := lvg hl (rm1_get lv i j q.2 h2)
  rw [h1]
  exact h3
theorem n_iadd (C : Cx p s m args meth c cc nL own G) {a b : Nat} (d : decode cc pc = .ok (.iadd, 1)) (k : J p l e R s m args below meth c Q nL G rg kc ks I L (pc + 1) lv (.int (nI (a + b)) :: st)) : J p l e R s m args below meth c Q nL G rg kc ks I L pc lv (.int (nI b) :: .int (nI a) :: st) := j_iadd C d (by rw [nI_add]; exact k)
theorem n_imul (C : Cx p s m args meth c cc nL own G) {a b : Nat} (d : decode cc pc = .ok (.imul, 1)) (k : J p l e R s m args below meth c Q nL G rg kc ks I L (pc + 1) lv (.int (nI (a * b)) :: st)) : J p l e R s m args below meth c Q nL G rg kc ks I L pc lv (.int (nI b) :: .int (nI a) :: st) := j_imul C d (by rw [pk_mul]; exact k)
theorem n_isub (C : Cx p s m args meth c cc nL own G) {a b : Nat} (h : b ≤ a) (d : decode cc pc = .ok (.isub, 1)) (k : J p l e R s m args below meth c Q nL G rg kc ks I L (pc + 1) lv (.int (nI (a - b)) :: st)) : J p l e R s m args below meth c Q nL G rg kc ks I L pc lv (.int (nI b) :: .int (nI a) :: st) := j_isub C d (by rw [pk_sub h]; exact k)
theorem n_idiv (C : Cx p s m args meth c cc nL own G) {a b : Nat} (ha : a < 2 ^ 31) (h0 : 0 < b) (hb : b < 2 ^ 31) (d : decode cc pc = .ok (.idiv, 1)) (k : J p l e R s m args below meth c Q nL G rg kc ks I L (pc + 1) lv (.int (nI (a / b)) :: st)) : J p l e R s m args below meth c Q nL G rg kc ks I L pc lv (.int (nI b) :: .int (nI a) :: st) := j_idiv C d (nI_ne0 h0 hb) (by rw [pk_div ha h0 hb]; exact k)
theorem n_irem (C : Cx p s m args meth c cc nL own G) {a b : Nat} (ha : a < 2 ^ 31) (h0 : 0 < b) (hb : b < 2 ^ 31) (d : decode cc pc = .ok (.irem, 1)) (k : J p l e R s m args below meth c Q nL G rg kc ks I L (pc + 1) lv (.int (nI (a % b)) :: st)) : J p l e R s m args below meth c Q nL G rg kc ks I L pc lv (.int (nI b) :: .int (nI a) :: st) := j_irem C d (nI_ne0 h0 hb) (by rw [pk_rem ha h0 hb]; exact k)
theorem n_iinc (C : Cx p s m args meth c cc nL own G) {i x : Nat} {n : Nat} (d : decode cc pc = .ok (.iinc i (n : Int), 3)) (hi : lv[i]? = some (some (.int (nI x)))) (hn : i < nL) (k : J p l e R s m args below meth c Q nL G rg kc ks I L (pc + 3) (st1 lv i (.int (nI (x + n)))) st) : J p l e R s m args below meth c Q nL G rg kc ks I L pc lv st := j_iinc C d hi (by rw [show Int32.ofInt (n : Int) = nI n from rfl, nI_add]) hn k
theorem n_idec (C : Cx p s m args meth c cc nL own G) {i x : Nat} (d : decode cc pc = .ok (.iinc i (-1), 3)) (hi : lv[i]? = some (some (.int (nI (x + 1))))) (hn : i < nL) (k : J p l e R s m args below meth c Q nL G rg kc ks I L (pc + 3) (st1 lv i (.int (nI x))) st) : J p l e R s m args below meth c Q nL G rg kc ks I L pc lv st := j_iinc C d hi (by rw [show Int32.ofInt (-1) = -1 from rfl]; exact pk_m1 x) hn k
theorem n_icmp_eq (C : Cx p s m args meth c cc nL own G) {a b : Nat} {off : Int} {tgt : Nat} (ha : a < 2 ^ 31) (hb : b < 2 ^ 31) (d : decode cc pc = .ok (.if_icmp .eq off, 3)) (ht : (pc : Int) + off = (tgt : Int)) (kt : a = b → J p l e R s m args below meth c Q nL G rg kc ks I L tgt lv st) (kf : ¬ a = b → J p l e R s m args below meth c Q nL G rg kc ks I L (pc + 3) lv st) : J p l e R s m args below meth c Q nL G rg kc ks I L pc lv (.int (nI b) :: .int (nI a) :: st) := j_icmp_eq C d ht (fun h => kt ((nI_eq ha hb).mp h)) (fun h => kf (fun q => h ((nI_eq ha hb).mpr q)))
theorem n_icmp_ne (C : Cx p s m args meth c cc nL own G) {a b : Nat} {off : Int} {tgt : Nat} (ha : a < 2 ^ 31) (hb : b < 2 ^ 31) (d : decode cc pc = .ok (.if_icmp .ne off, 3)) (ht : (pc : Int) + off = (tgt : Int)) (kt : ¬ a = b → J p l e R s m args below meth c Q nL G rg kc ks I L tgt lv st) (kf : a = b → J p l e R s m args below meth c Q nL G rg kc ks I L (pc + 3) lv st) : J p l e R s m args below meth c Q nL G rg kc ks I L pc lv (.int (nI b) :: .int (nI a) :: st) := j_icmp_ne C d ht (fun h => kt (fun q => h ((nI_eq ha hb).mpr q))) (fun h => kf ((nI_eq ha hb).mp h))
theorem n_icmp_lt (C : Cx p s m args meth c cc nL own G) {a b : Nat} {off : Int} {tgt : Nat} (ha : a < 2 ^ 31) (hb : b < 2 ^ 31) (d : decode cc pc = .ok (.if_icmp .lt off, 3)) (ht : (pc : Int) + off = (tgt : Int)) (kt : a < b → J p l e R s m args below meth c Q nL G rg kc ks I L tgt lv st) (kf : b ≤ a → J p l e R s m args below meth c Q nL G rg kc ks I L (pc + 3) lv st) : J p l e R s m args below meth c Q nL G rg kc ks I L pc lv (.int (nI b) :: .int (nI a) :: st) := j_icmp_lt C d ht (fun h => kt ((nI_ltI ha hb).mp h)) (fun h => kf (Nat.le_of_not_lt (fun q => h ((nI_ltI ha hb).mpr q))))
theorem n_icmp_ge (C : Cx p s m args meth c cc nL own G) {a b : Nat} {off : Int} {tgt : Nat} (ha : a < 2 ^ 31) (hb : b < 2 ^ 31) (d : decode cc pc = .ok (.if_icmp .ge off, 3)) (ht : (pc : Int) + off = (tgt : Int)) (kt : b ≤ a → J p l e R s m args below meth c Q nL G rg kc ks I L tgt lv st) (kf : a < b → J p l e R s m args below meth c Q nL G rg kc ks I L (pc + 3) lv st) : J p l e R s m args below meth c Q nL G rg kc ks I L pc lv (.int (nI b) :: .int (nI a) :: st) := j_icmp_ge C d ht (fun h => kt ((nI_leI hb ha).mp h)) (fun h => kf (Nat.lt_of_not_le (fun q => h ((nI_leI hb ha).mpr q))))
theorem n_icmp_gt (C : Cx p s m args meth c cc nL own G) {a b : Nat} {off : Int} {tgt : Nat} (ha : a < 2 ^ 31) (hb : b < 2 ^ 31) (d : decode cc pc = .ok (.if_icmp .gt off, 3)) (ht : (pc : Int) + off = (tgt : Int)) (kt : b < a → J p l e R s m args below meth c Q nL G rg kc ks I L tgt lv st) (kf : a ≤ b → J p l e R s m args below meth c Q nL G rg kc ks I L (pc + 3) lv st) : J p l e R s m args below meth c Q nL G rg kc ks I L pc lv (.int (nI b) :: .int (nI a) :: st) := j_icmp_gt C d ht (fun h => kt ((nI_ltI hb ha).mp h)) (fun h => kf (Nat.le_of_not_lt (fun q => h ((nI_ltI hb ha).mpr q))))
theorem n_icmp_le (C : Cx p s m args meth c cc nL own G) {a b : Nat} {off : Int} {tgt : Nat} (ha : a < 2 ^ 31) (hb : b < 2 ^ 31) (d : decode cc pc = .ok (.if_icmp .le off, 3)) (ht : (pc : Int) + off = (tgt : Int)) (kt : a ≤ b → J p l e R s m args below meth c Q nL G rg kc ks I L tgt lv st) (kf : b < a → J p l e R s m args below meth c Q nL G rg kc ks I L (pc + 3) lv st) : J p l e R s m args below meth c Q nL G rg kc ks I L pc lv (.int (nI b) :: .int (nI a) :: st) := j_icmp_le C d ht (fun h => kt ((nI_leI ha hb).mp h)) (fun h => kf (Nat.lt_of_not_le (fun q => h ((nI_leI ha hb).mpr q))))
def b2i (b : Bool) : Int32 := if b then 1 else 0
theorem b2i_0 {b : Bool} : b2i b = 0 ↔ b = false := by cases b <;> decide
theorem b2i_n {b : Bool} (ty : FieldType) (h : ty = .boolean) : narrow ty (.int (b2i b)) = .int (b2i b) := by subst h; cases b <;> rfl
theorem b2i_f {b : Bool} (ty : FieldType) (h : ty = .boolean) : fits ty (.int (b2i b)) = true := by subst h; cases b <;> rfl
theorem b2i_v {b : Bool} : vp_nar .boolean (b2i b) = b2i b := by cases b <;> rfl
theorem n_if_eq (C : Cx p s m args meth c cc nL own G) {b : Bool} {off : Int} {tgt : Nat} (d : decode cc pc = .ok (.ifCond .eq off, 3)) (ht : (pc : Int) + off = (tgt : Int)) (kt : b = false → J p l e R s m args below meth c Q nL G rg kc ks I L tgt lv st) (kf : b = true → J p l e R s m args below meth c Q nL G rg kc ks I L (pc + 3) lv st) : J p l e R s m args below meth c Q nL G rg kc ks I L pc lv (.int (b2i b) :: st) := j_if_eq C d ht (fun h => kt (b2i_0.mp h)) (fun h => kf (by cases b with | true => rfl | false => exact absurd rfl h))
theorem n_if_ne (C : Cx p s m args meth c cc nL own G) {b : Bool} {off : Int} {tgt : Nat} (d : decode cc pc = .ok (.ifCond .ne off, 3)) (ht : (pc : Int) + off = (tgt : Int)) (kt : b = true → J p l e R s m args below meth c Q nL G rg kc ks I L tgt lv st) (kf : b = false → J p l e R s m args below meth c Q nL G rg kc ks I L (pc + 3) lv st) : J p l e R s m args below meth c Q nL G rg kc ks I L pc lv (.int (b2i b) :: st) := j_if_ne C d ht (fun h => kt (by cases b with | true => rfl | false => exact absurd rfl h)) (fun h => kf (b2i_0.mp h))
end GROWS
theorem g_cvI {p : Program} {l : Launch} {e : Env} {R : Room} {s : State} {m : MethodId} {args : Array Value} {below : List Frame} {meth : Method} {c : Code} {Q : State → Prop} {cc : ByteArray} {nL : Nat} {own : String} {G : GT} {rg : RgT} {kc ks : Nat} {I : II} {L : LL} {pc : Nat} {lv : LV} {st rest As : List Value} {idx ci n d o : Nat} {y : MethodName} {cb : ByteArray} {nb : Nat} {ret : Option FieldType} {fs : List (Nat × Nat)} {post : Int32 → II → LL → Prop} (C : Cx p s m args meth c cc nL own G) (vc : VC own idx ci y cb nb ret n) (hM : CtI l y cb nb ret d G rg I L (.ref (gB G + o) :: As) post) (hR : d + 1 ≤ R.frames ∧ 34 * d + 34 ≤ R.locals) (ob : Ob rg o ci fs) (hn : As.length = n) (hst : st = As.reverse ++ .ref (gB G + o) :: rest) (hW : (rest.map fun v => v.category).sum ≤ 8) (hr : kc ≤ R.cells ∧ ks ≤ R.slots) (dd : decode cc pc = .ok (.invokevirtual idx, 3)) (kk : ∀ (r : Int32) (I1 : II) (L1 : LL), post r I1 L1 → J p l e R s m args below meth c Q nL G rg kc ks I1 L1 (pc + 3) lv (.int r :: rest)) : J p l e R s m args below meth c Q nL G rg kc ks I L pc lv st := by
  obtain ⟨ho, z1, z2, hs⟩ := ob
  exact j_cvI C vc hM hR ho hs rfl hn hst hW hr dd kk
theorem g_cvL {p : Program} {l : Launch} {e : Env} {R : Room} {s : State} {m : MethodId} {args : Array Value} {below : List Frame} {meth : Method} {c : Code} {Q : State → Prop} {cc : ByteArray} {nL : Nat} {own : String} {G : GT} {rg : RgT} {kc ks : Nat} {I : II} {L : LL} {pc : Nat} {lv : LV} {st rest As : List Value} {idx ci n d o : Nat} {y : MethodName} {cb : ByteArray} {nb : Nat} {ret : Option FieldType} {fs : List (Nat × Nat)} {post : Int64 → II → LL → Prop} (C : Cx p s m args meth c cc nL own G) (vc : VC own idx ci y cb nb ret n) (hM : CtL l y cb nb ret d G rg I L (.ref (gB G + o) :: As) post) (hR : d + 1 ≤ R.frames ∧ 34 * d + 34 ≤ R.locals) (ob : Ob rg o ci fs) (hn : As.length = n) (hst : st = As.reverse ++ .ref (gB G + o) :: rest) (hW : (rest.map fun v => v.category).sum ≤ 8) (hr : kc ≤ R.cells ∧ ks ≤ R.slots) (dd : decode cc pc = .ok (.invokevirtual idx, 3)) (kk : ∀ (r : Int64) (I1 : II) (L1 : LL), post r I1 L1 → J p l e R s m args below meth c Q nL G rg kc ks I1 L1 (pc + 3) lv (.long r :: rest)) : J p l e R s m args below meth c Q nL G rg kc ks I L pc lv st := by
  obtain ⟨ho, z1, z2, hs⟩ := ob
  exact j_cvL C vc hM hR ho hs rfl hn hst hW hr dd kk
theorem g_cvV {p : Program} {l : Launch} {e : Env} {R : Room} {s : State} {m : MethodId} {args : Array Value} {below : List Frame} {meth : Method} {c : Code} {Q : State → Prop} {cc : ByteArray} {nL : Nat} {own : String} {G : GT} {rg : RgT} {kc ks : Nat} {I : II} {L : LL} {pc : Nat} {lv : LV} {st rest As : List Value} {idx ci n d o : Nat} {y : MethodName} {cb : ByteArray} {nb : Nat} {ret : Option FieldType} {fs : List (Nat × Nat)} {post : II → LL → Prop} (C : Cx p s m args meth c cc nL own G) (vc : VC own idx ci y cb nb ret n) (hM : CtV l y cb nb ret d G rg I L (.ref (gB G + o) :: As) post) (hR : d + 1 ≤ R.frames ∧ 34 * d + 34 ≤ R.locals) (ob : Ob rg o ci fs) (hn : As.length = n) (hst : st = As.reverse ++ .ref (gB G + o) :: rest) (hW : (rest.map fun v => v.category).sum ≤ 8) (hr : kc ≤ R.cells ∧ ks ≤ R.slots) (dd : decode cc pc = .ok (.invokevirtual idx, 3)) (kk : ∀ (I1 : II) (L1 : LL), post I1 L1 → J p l e R s m args below meth c Q nL G rg kc ks I1 L1 (pc + 3) lv rest) : J p l e R s m args below meth c Q nL G rg kc ks I L pc lv st := by
  obtain ⟨ho, z1, z2, hs⟩ := ob
  exact j_cvV C vc hM hR ho hs rfl hn hst hW hr dd kk
theorem g_cvR {p : Program} {l : Launch} {e : Env} {R : Room} {s : State} {m : MethodId} {args : Array Value} {below : List Frame} {meth : Method} {c : Code} {Q : State → Prop} {cc : ByteArray} {nL : Nat} {own : String} {G : GT} {rg : RgT} {kc ks : Nat} {I : II} {L : LL} {pc : Nat} {lv : LV} {st rest As : List Value} {idx ci n d o : Nat} {y : MethodName} {cb : ByteArray} {nb : Nat} {ret : Option FieldType} {fs : List (Nat × Nat)} {post : Nat → II → LL → Prop} (C : Cx p s m args meth c cc nL own G) (vc : VC own idx ci y cb nb ret n) (hM : CtR l y cb nb ret d G rg I L (.ref (gB G + o) :: As) post) (hR : d + 1 ≤ R.frames ∧ 34 * d + 34 ≤ R.locals) (ob : Ob rg o ci fs) (hn : As.length = n) (hst : st = As.reverse ++ .ref (gB G + o) :: rest) (hW : (rest.map fun v => v.category).sum ≤ 8) (hr : kc ≤ R.cells ∧ ks ≤ R.slots) (dd : decode cc pc = .ok (.invokevirtual idx, 3)) (kk : ∀ (r : Nat) (I1 : II) (L1 : LL), post r I1 L1 → J p l e R s m args below meth c Q nL G rg kc ks I1 L1 (pc + 3) lv (.ref (gB G + r) :: rest)) : J p l e R s m args below meth c Q nL G rg kc ks I L pc lv st := by
  obtain ⟨ho, z1, z2, hs⟩ := ob
  exact j_cvR C vc hM hR ho hs rfl hn hst hW hr dd kk
end
section
/-! ===== longs: what fits, the greatest common divisor, fractions ===== -/
abbrev Fr : Type := Int64 × Int64
abbrev LEA : Int64 := -9223372036854775808
theorem LEA_toInt : (LEA : Int64).toInt = -9223372036854775808 := by decide
abbrev inR (z : Int) : Prop := -9223372036854775808 < z ∧ z < 9223372036854775808
def mulO (a b : Int64) : Option Int64 := if inR (a.toInt * b.toInt) then some (a * b) else none
def addO (a b : Int64) : Option Int64 := if inR (a.toInt + b.toInt) then some (a + b) else none
def subO (a b : Int64) : Option Int64 := if inR (a.toInt - b.toInt) then some (a - b) else none
def addOO : Option Int64 → Option Int64 → Option Int64
  | some a, some b => addO a b
  | _, _ => none
def subOO : Option Int64 → Option Int64 → Option Int64
  | some a, some b => subO a b
  | _, _ => none
def enc (x : Option Int64) : Int64 := x.getD LEA
def decO (x : Int64) : Option Int64 := if x = LEA then none else some x
theorem i64_lo (x : Int64) : -9223372036854775808 ≤ x.toInt := by have := Int64.le_toInt x; simpa using this
theorem i64_hi (x : Int64) : x.toInt < 9223372036854775808 := by have := Int64.toInt_lt x; simpa using this
theorem ne_LEA {x : Int64} : x ≠ LEA ↔ -9223372036854775808 < x.toInt := by
  have h0 := i64_lo x
  constructor
  · intro h
    rcases Int.lt_or_eq_of_le h0 with q | q
    · exact q
    · exact absurd (Int64.toInt_inj.mp (by rw [← q]; exact LEA_toInt.symm)) h
  · intro h q
    rw [q, LEA_toInt] at h
    omega
theorem bm_in {z : Int} (h : inR z) : z.bmod (2 ^ 64) = z := by
  apply Int.bmod_eq_of_le <;> simp <;> omega
theorem mul_in {a b : Int64} (h : inR (a.toInt * b.toInt)) : (a * b).toInt = a.toInt * b.toInt := by rw [Int64.toInt_mul, bm_in h]
theorem add_in {a b : Int64} (h : inR (a.toInt + b.toInt)) : (a + b).toInt = a.toInt + b.toInt := by rw [Int64.toInt_add, bm_in h]
theorem sub_in {a b : Int64} (h : inR (a.toInt - b.toInt)) : (a - b).toInt = a.toInt - b.toInt := by rw [Int64.toInt_sub, bm_in h]
theorem neg_in {a : Int64} (h : a ≠ LEA) : (-a).toInt = -a.toInt := by
  rw [Int64.toInt_neg, bm_in]
  have := ne_LEA.mp h
  have := i64_hi a
  constructor <;> omega
theorem mulO_ne {a b r : Int64} (h : mulO a b = some r) : r ≠ LEA ∧ r.toInt = a.toInt * b.toInt := by
  unfold mulO at h
  split at h
  · next hr =>
    cases h
    rw [ne_LEA, mul_in hr]
    exact ⟨hr.1, rfl⟩
  · cases h
theorem addO_ne {a b r : Int64} (h : addO a b = some r) : r ≠ LEA ∧ r.toInt = a.toInt + b.toInt := by
  unfold addO at h
  split at h
  · next hr =>
    cases h
    rw [ne_LEA, add_in hr]
    exact ⟨hr.1, rfl⟩
  · cases h
theorem subO_ne {a b r : Int64} (h : subO a b = some r) : r ≠ LEA ∧ r.toInt = a.toInt - b.toInt := by
  unfold subO at h
  split at h
  · next hr =>
    cases h
    rw [ne_LEA, sub_in hr]
    exact ⟨hr.1, rfl⟩
  · cases h
theorem dec_mul (a b : Int64) : decO (enc (mulO a b)) = mulO a b := by
  cases h : mulO a b with
  | none => rfl
  | some r => exact if_neg (mulO_ne h).1
theorem dec_addOO (x y : Option Int64) : decO (enc (addOO x y)) = addOO x y := by
  cases x with
  | none => rfl
  | some a => cases y with
    | none => rfl
    | some b => cases h : addOO (some a) (some b) with
      | none => rfl
      | some r => exact if_neg (addO_ne h).1
theorem dec_subOO (x y : Option Int64) : decO (enc (subOO x y)) = subOO x y := by
  cases x with
  | none => rfl
  | some a => cases y with
    | none => rfl
    | some b => cases h : subOO (some a) (some b) with
      | none => rfl
      | some r => exact if_neg (subO_ne h).1
theorem i64_0 : (0 : Int64).toInt = 0 := by decide
theorem ne0_int {x : Int64} (h : ¬ x = 0) : x.toInt ≠ 0 := fun q => h (Int64.toInt_inj.mp (by rw [q]; decide))
/-- the product is checked by a division -/
theorem mul_chk {a b : Int64} (ha : ¬ a = 0) (hd : a * b / a = b) : enc (mulO a b) = a * b := by
  by_cases hz : inR (a.toInt * b.toInt)
  · unfold mulO; rw [if_pos hz]; rfl
  · unfold mulO
    rw [if_neg hz]
    by_cases hm : a * b = LEA
    · exact hm.symm
    · exfalso
      have h1 : (a * b / a).toInt = (a * b).toInt.tdiv a.toInt := Int64.toInt_div_of_ne_left _ _ (fun q => hm (q.trans (by decide)))
      rw [hd] at h1
      have ha0 := ne0_int ha
      have hmod := Int.tmod_add_mul_tdiv (a * b).toInt a.toInt
      rw [← h1] at hmod
      have hb : ((a * b).toInt - a.toInt * b.toInt) % (2 ^ 64) = 0 := by
        rw [Int64.toInt_mul]
        have := Int.bmod_emod (x := a.toInt * b.toInt) (m := 2 ^ 64)
        omega
      have hr : ((a * b).toInt.tmod a.toInt).natAbs < a.toInt.natAbs := by
        rw [Int.natAbs_tmod]
        exact Nat.mod_lt _ (Int.natAbs_pos.mpr ha0)
      have hl := i64_lo a
      have hh := i64_hi a
      have hw := ne_LEA.mp hm
      have hw2 := i64_hi (a * b)
      have hz2 : (a * b).toInt.tmod a.toInt = 0 := by omega
      apply hz
      have : a.toInt * b.toInt = (a * b).toInt := by omega
      rw [this]
      exact ⟨hw, hw2⟩
theorem mul_chk0 {a b : Int64} (ha : a = 0) : enc (mulO a b) = a * b := by
  subst ha
  unfold mulO
  rw [if_pos (by rw [i64_0, Int.zero_mul]; decide)]
  rfl
theorem mul_chkN {a b : Int64} (ha : ¬ a = 0) (hd : ¬ a * b / a = b) : enc (mulO a b) = LEA := by
  unfold mulO
  rw [if_neg]
  · rfl
  · intro hz
    apply hd
    apply Int64.toInt_inj.mp
    have hm : a * b ≠ Int64.minValue := fun q => by
      have h1 := mul_in hz
      rw [q] at h1
      have h2 : (Int64.minValue).toInt = -9223372036854775808 := by decide
      rw [h2] at h1
      omega
    rw [Int64.toInt_div_of_ne_left _ _ hm, mul_in hz, Int.mul_tdiv_cancel_left _ (ne0_int ha)]
theorem xor_lt (x y : Int64) : (x ^^^ y) < 0 ↔ ((x < 0) ↔ ¬ (y < 0)) := by
  have key : ∀ z : Int64, z < 0 ↔ z.toBitVec.msb = true := by
    intro z
    rw [Int64.lt_iff_toInt_lt, i64_0, BitVec.msb_eq_toInt]
    exact decide_eq_true_iff.symm
  rw [key, key, key, Int64.toBitVec_xor, BitVec.msb_xor]
  cases x.toBitVec.msb <;> cases y.toBitVec.msb <;> simp
theorem and_lt (x y : Int64) : (x &&& y) < 0 ↔ (x < 0 ∧ y < 0) := by
  have key : ∀ z : Int64, z < 0 ↔ z.toBitVec.msb = true := by
    intro z
    rw [Int64.lt_iff_toInt_lt, i64_0, BitVec.msb_eq_toInt]
    exact decide_eq_true_iff.symm
  rw [key, key, key, Int64.toBitVec_and, BitVec.msb_and]
  cases x.toBitVec.msb <;> cases y.toBitVec.msb <;> simp
theorem lt0 (x : Int64) : x < 0 ↔ x.toInt < 0 := by rw [Int64.lt_iff_toInt_lt, i64_0]
/-- a sum wraps round -/
theorem add_wr (a b : Int64) : ((a ^^^ (a + b)) &&& (b ^^^ (a + b))) < 0 ↔ ¬ (-9223372036854775808 ≤ a.toInt + b.toInt ∧ a.toInt + b.toInt < 9223372036854775808) := by
  rw [and_lt, xor_lt, xor_lt, lt0, lt0, lt0, Int64.toInt_add]
  have h1 := i64_lo a; have h2 := i64_hi a; have h3 := i64_lo b; have h4 := i64_hi b
  have hb : (a.toInt + b.toInt).bmod (2 ^ 64) = if a.toInt + b.toInt < -9223372036854775808 then a.toInt + b.toInt + 18446744073709551616 else if a.toInt + b.toInt < 9223372036854775808 then a.toInt + b.toInt else a.toInt + b.toInt - 18446744073709551616 := by
    rw [Int.bmod_def]
    split <;> split <;> omega
  rw [hb]
  split <;> (try split) <;> omega
theorem sub_wr (a b : Int64) : ((a ^^^ b) &&& (a ^^^ (a - b))) < 0 ↔ ¬ (-9223372036854775808 ≤ a.toInt - b.toInt ∧ a.toInt - b.toInt < 9223372036854775808) := by
  rw [and_lt, xor_lt, xor_lt, lt0, lt0, lt0, Int64.toInt_sub]
  have h1 := i64_lo a; have h2 := i64_hi a; have h3 := i64_lo b; have h4 := i64_hi b
  have hb : (a.toInt - b.toInt).bmod (2 ^ 64) = if a.toInt - b.toInt < -9223372036854775808 then a.toInt - b.toInt + 18446744073709551616 else if a.toInt - b.toInt < 9223372036854775808 then a.toInt - b.toInt else a.toInt - b.toInt - 18446744073709551616 := by
    rw [Int.bmod_def]
    split <;> split <;> omega
  rw [hb]
  split <;> (try split) <;> omega
theorem plus_bad {a b : Int64} (h : ((a ^^^ (a + b)) &&& (b ^^^ (a + b))) < 0 ∨ a = LEA ∨ b = LEA) : enc (addOO (decO a) (decO b)) = LEA := by
  by_cases ha : a = LEA
  · rw [decO, if_pos ha]; rfl
  by_cases hb : b = LEA
  · rw [decO, if_neg ha, decO, if_pos hb]; rfl
  rw [decO, if_neg ha, decO, if_neg hb, addOO, addO, if_neg]
  · rfl
  · intro hz
    rcases h with h | h | h
    · exact (add_wr a b).mp h ⟨by omega, by omega⟩
    · exact ha h
    · exact hb h
theorem plus_ok {a b : Int64} (h : ¬ ((a ^^^ (a + b)) &&& (b ^^^ (a + b))) < 0) (ha : ¬ a = LEA) (hb : ¬ b = LEA) : enc (addOO (decO a) (decO b)) = a + b := by
  rw [decO, if_neg ha, decO, if_neg hb, addOO, addO]
  split
  · rfl
  · next hz =>
    rw [add_wr, Classical.not_not] at h
    have : a + b = LEA := by
      apply Int64.toInt_inj.mp
      rw [LEA_toInt, Int64.toInt_add, show a.toInt + b.toInt = -9223372036854775808 by omega]
      decide
    rw [this]; rfl
theorem minus_bad {a b : Int64} (h : ((a ^^^ b) &&& (a ^^^ (a - b))) < 0 ∨ a = LEA ∨ b = LEA) : enc (subOO (decO a) (decO b)) = LEA := by
  by_cases ha : a = LEA
  · rw [decO, if_pos ha]; rfl
  by_cases hb : b = LEA
  · rw [decO, if_neg ha, decO, if_pos hb]; rfl
  rw [decO, if_neg ha, decO, if_neg hb, subOO, subO, if_neg]
  · rfl
  · intro hz
    rcases h with h | h | h
    · exact (sub_wr a b).mp h ⟨by omega, by omega⟩
    · exact ha h
    · exact hb h
theorem minus_ok {a b : Int64} (h : ¬ ((a ^^^ b) &&& (a ^^^ (a - b))) < 0) (ha : ¬ a = LEA) (hb : ¬ b = LEA) : enc (subOO (decO a) (decO b)) = a - b := by
  rw [decO, if_neg ha, decO, if_neg hb, subOO, subO]
  split
  · rfl
  · next hz =>
    rw [sub_wr, Classical.not_not] at h
    have : a - b = LEA := by
      apply Int64.toInt_inj.mp
      rw [LEA_toInt, Int64.toInt_sub, show a.toInt - b.toInt = -9223372036854775808 by omega]
      decide
    rw [this]; rfl
/-- sizes -/
def absN (a : Int64) : Nat := a.toInt.natAbs
theorem absN_lt {a : Int64} (h : a ≠ LEA) : absN a < 2 ^ 63 := by
  have := ne_LEA.mp h; have := i64_hi a; unfold absN; omega
theorem abs_neg {a : Int64} (h : a ≠ LEA) (hn : ¬ 0 ≤ a) : -a = lN (absN a) := by
  apply Int64.toInt_inj.mp
  rw [neg_in h, pk_lT (absN_lt h)]
  rw [Int64.le_iff_toInt_le, i64_0] at hn
  unfold absN; omega
theorem abs_pos {a : Int64} (h : a ≠ LEA) (hn : 0 ≤ a) : a = lN (absN a) := by
  apply Int64.toInt_inj.mp
  rw [pk_lT (absN_lt h)]
  rw [Int64.le_iff_toInt_le, i64_0] at hn
  unfold absN; omega
def gcdN (a b : Int64) : Nat := Nat.gcd (absN a) (absN b)
/-- Euclid's steps: what the loop keeps -/
def euI (i x y : Nat) : Prop := x < 2 ^ 63 ∧ y < 2 ^ 63 ∧ (y = 0 ∨ i = 0 ∨ (y ≤ x ∧ x * y * 2 ^ (i - 1) < 2 ^ 126))
theorem euI_0 {x y : Nat} (hx : x < 2 ^ 63) (hy : y < 2 ^ 63) : euI 0 x y := ⟨hx, hy, Or.inr (Or.inl rfl)⟩
theorem euI_s {i x y : Nat} (h : euI i x y) (hy : y ≠ 0) : euI (i + 1) y (x % y) := by
  obtain ⟨h1, h2, h3⟩ := h
  have hm : x % y < y := Nat.mod_lt _ (Nat.pos_of_ne_zero hy)
  refine ⟨h2, Nat.lt_trans hm h2, Or.inr (Or.inr ⟨Nat.le_of_lt hm, ?_⟩)⟩
  rcases h3 with h3 | h3 | ⟨h3, h4⟩
  · exact absurd h3 hy
  · subst h3
    rw [Nat.add_sub_cancel, Nat.pow_zero, Nat.mul_one]
    calc y * (x % y) < 2 ^ 63 * 2 ^ 63 := Nat.mul_lt_mul_of_lt_of_le h2 (Nat.le_of_lt (Nat.lt_trans hm h2)) (by decide)
      _ = 2 ^ 126 := by decide
  · rw [Nat.add_sub_cancel]
    by_cases hi : i = 0
    · subst hi
      rw [Nat.pow_zero, Nat.mul_one]
      calc y * (x % y) < 2 ^ 63 * 2 ^ 63 := Nat.mul_lt_mul_of_lt_of_le h2 (Nat.le_of_lt (Nat.lt_trans hm h2)) (by decide)
        _ = 2 ^ 126 := by decide
    · have e : 2 ^ i = 2 * 2 ^ (i - 1) := by
        rw [← Nat.pow_succ']
        congr 1
        omega
      rw [e]
      have h5 : 2 * (x % y) ≤ x := by
        have h6 := Nat.div_add_mod x y
        have h7 : 1 ≤ x / y := Nat.div_pos h3 (Nat.pos_of_ne_zero hy)
        have h8 : y * 1 ≤ y * (x / y) := Nat.mul_le_mul_left y h7
        omega
      calc y * (x % y) * (2 * 2 ^ (i - 1)) = (y * (2 * (x % y))) * 2 ^ (i - 1) := by
            rw [← Nat.mul_assoc, Nat.mul_comm (y * (x % y)) 2, ← Nat.mul_assoc, Nat.mul_left_comm y 2, Nat.mul_assoc 2]
        _ ≤ (x * y) * 2 ^ (i - 1) := by
            apply Nat.mul_le_mul_right
            rw [Nat.mul_comm x y]
            exact Nat.mul_le_mul_left y h5
        _ < 2 ^ 126 := h4
theorem euI_e {i x y : Nat} (h : euI i x y) (hi : 200 ≤ i) : y = 0 := by
  obtain ⟨h1, h2, h3⟩ := h
  rcases h3 with h3 | h3 | ⟨h3, h4⟩
  · exact h3
  · omega
  · rcases Nat.eq_zero_or_pos y with h5 | h5
    · exact h5
    · exfalso
      have h6 : 1 ≤ x * y := Nat.mul_pos (by omega) h5
      have h7 : 2 ^ 126 ≤ 2 ^ (i - 1) := Nat.pow_le_pow_right (by decide) (by omega)
      have h8 : 1 * 2 ^ (i - 1) ≤ x * y * 2 ^ (i - 1) := Nat.mul_le_mul_right _ h6
      omega
theorem gcd_s {x y g : Nat} (h : Nat.gcd x y = g) : Nat.gcd y (x % y) = g := by
  rw [← h, Nat.gcd_comm x y, Nat.gcd_rec y x, Nat.gcd_comm]
theorem gcdN_lt {a b : Int64} (ha : a ≠ LEA) (hb : b ≠ LEA) : gcdN a b < 2 ^ 63 := by
  unfold gcdN
  by_cases h : absN b = 0
  · rw [h, Nat.gcd_zero_right]; exact absN_lt ha
  · exact Nat.lt_of_le_of_lt (Nat.gcd_le_right _ (Nat.pos_of_ne_zero h)) (absN_lt hb)
/-- a fraction in lowest terms -/
def red (u v : Int64) : Fr := if 0 ≤ v then (u / lN (gcdN u v), v / lN (gcdN u v)) else (u / -lN (gcdN u v), v / -lN (gcdN u v))
def fPut : Option Int64 → Option Int64 → Option Fr
  | some u, some v => if v = 0 then none else some (red u v)
  | _, _ => none
def fMul (x y : Fr) : Option Fr := fPut (mulO x.1 y.1) (mulO x.2 y.2)
def fDiv (x y : Fr) : Option Fr := fPut (mulO x.1 y.2) (mulO x.2 y.1)
def fAdd (x y : Fr) : Option Fr := fPut (addOO (mulO x.1 y.2) (mulO y.1 x.2)) (mulO x.2 y.2)
def fSub (x y : Fr) : Option Fr := fPut (subOO (mulO x.1 y.2) (mulO y.1 x.2)) (mulO x.2 y.2)
def fr (L : LL) (o : Nat) : Fr := (L o 0, L o 1)
def setF (L : LL) (o : Nat) (x : Fr) : LL := up2 (up2 L o 0 x.1) o 1 x.2
theorem fr_setF (L : LL) (o q : Nat) (x : Fr) : fr (setF L o x) q = if q = o then x else fr L q := by
  unfold fr setF
  simp only [up2_at]
  split <;> simp_all
theorem setF_ne {L : LL} {o q : Nat} {x : Fr} (h : q ≠ o) : setF L o x q = L q := by
  unfold setF
  rw [up2_ne _ h, up2_ne _ h]
/-- what a call answers that may be too long: 1 and the fraction put at o; or 0 and nothing changed -/
def Put (I : II) (L : LL) (o : Nat) (x : Option Fr) (r : Int32) (I1 : II) (L1 : LL) : Prop := I = I1 ∧ ((∃ z, x = some z ∧ r = b2i true ∧ setF L o z = L1) ∨ (x = none ∧ r = b2i false ∧ L = L1))
theorem ng0 {x : Int64} (h : ¬ x = 0) : ¬ -x = 0 := fun q => h (by have := congrArg (fun z => -z) q; simpa using this)
theorem lN_0 {y : Nat} (hy : y < 2 ^ 63) (h : lN y = 0) : y = 0 := (pk_lEQ hy (by decide)).mp h
theorem gcd_n0 {u v : Int64} (hu : ¬ u = LEA) (hv : ¬ v = LEA) (h0 : ¬ v = 0) : ¬ lN (gcdN u v) = 0 := by
  intro q
  have h1 := lN_0 (gcdN_lt hu hv) q
  have h2 := (Nat.gcd_eq_zero_iff.mp h1).2
  unfold absN at h2
  have := ne0_int h0
  omega
theorem fPut_1 {u v : Int64} (h : u = LEA) : fPut (decO u) (decO v) = none := by rw [decO, if_pos h]; rfl
theorem fPut_2 {u v : Int64} (h : v = LEA) : fPut (decO u) (decO v) = none := by
  rw [decO, decO, if_pos h]
  split <;> rfl
theorem fPut_3 {u v : Int64} (h : v = 0) : fPut (decO u) (decO v) = none := by
  subst h
  rw [show decO 0 = some 0 from if_neg (by decide)]
  cases decO u with
  | none => rfl
  | some w =>
    show (if (0 : Int64) = 0 then none else some (red w 0)) = none
    exact if_pos rfl
theorem fPut_4 {u v : Int64} (hu : ¬ u = LEA) (hv : ¬ v = LEA) (h : ¬ v = 0) : fPut (decO u) (decO v) = some (red u v) := by
  rw [decO, decO, if_neg hu, if_neg hv]
  exact if_neg h
theorem red_p {u v : Int64} (h : 0 ≤ v) : red u v = (u / lN (gcdN u v), v / lN (gcdN u v)) := if_pos h
theorem red_n {u v : Int64} (h : ¬ 0 ≤ v) : red u v = (u / -lN (gcdN u v), v / -lN (gcdN u v)) := if_neg h
end
section
/-! ===== shapes of the class's objects, frames ===== -/
def isMx (rg : RgT) (o : Nat) : Prop := Ob rg o 3 [(2, o + 1), (2, o + 27)] ∧ Rr rg (o + 1) 3 25 (fun j => o + 2 + j) ∧ ∀ j, j < 26 → isF rg (o + 2 + j)
def isSq (rg : RgT) (o : Nat) : Prop := Ob rg o 5 [(2, o + 1), (2, o + 2), (0, 0)] ∧ isF rg (o + 1) ∧ Rr rg (o + 2) 3 5 (fun j => o + 3 + j) ∧ ∀ j, j < 5 → isF rg (o + 3 + j)
def isFm (rg : RgT) (o : Nat) : Prop := Ob rg o 1 [(2, o + 1)] ∧ Ar rg (o + 1) 0 25
def isEl (rg : RgT) (o : Nat) : Prop := Ob rg o 0 [(2, o + 1), (2, o + 29), (2, o + 30), (2, o + 31), (2, o + 37), (2, o + 38), (0, 0), (0, 0), (0, 0), (0, 0)] ∧ isMx rg (o + 1) ∧ Ar rg (o + 29) 2 5 ∧ Rr rg (o + 30) 4 5 (fun j => o + 39 + 8 * j) ∧ Rr rg (o + 31) 3 5 (fun j => o + 32 + j) ∧ (∀ j, j < 5 → isF rg (o + 32 + j)) ∧ isF rg (o + 37) ∧ isF rg (o + 38) ∧ ∀ s, s < 5 → isSq rg (o + 39 + 8 * s)
def isPt (rg : RgT) (o : Nat) : Prop := Ob rg o 4 [(2, o + 1), (2, o + 7), (2, o + 8), (0, 0)] ∧ Rr rg (o + 1) 3 5 (fun j => o + 2 + j) ∧ (∀ j, j < 5 → isF rg (o + 2 + j)) ∧ isF rg (o + 7) ∧ isF rg (o + 8)
/-- outside lo .. hi nothing has changed -/
def Fm {α : Type} (lo hi : Nat) (f g : Nat → α) : Prop := ∀ q, ¬ (lo ≤ q ∧ q < hi) → g q = f q
theorem Fm.rf {α : Type} {lo hi : Nat} {f : Nat → α} : Fm lo hi f f := fun _ _ => rfl
theorem Fm.set {lo hi o : Nat} {L L1 : LL} {x : Fr} (h : Fm lo hi L L1) (h1 : lo ≤ o) (h2 : o < hi) : Fm lo hi L (setF L1 o x) := fun q hq => by
  rw [setF_ne (fun e => hq (by omega))]
  exact h q hq
theorem Fm.trans {α : Type} {lo hi : Nat} {f g h : Nat → α} (a : Fm lo hi f g) (b : Fm lo hi g h) : Fm lo hi f h := fun q hq => (b q hq).trans (a q hq)
theorem Fm.mono {α : Type} {lo hi lo2 hi2 : Nat} {f g : Nat → α} (a : Fm lo hi f g) (h1 : lo2 ≤ lo) (h2 : hi ≤ hi2) : Fm lo2 hi2 f g := fun q hq => a q (fun z => hq (by omega))
theorem Fm.fr {lo hi q : Nat} {L L1 : LL} (h : Fm lo hi L L1) (hq : ¬ (lo ≤ q ∧ q < hi)) : fr L1 q = fr L q := by
  unfold _root_.Jvm.Pilot.@@N@@.fr
  rw [h q hq]
theorem Put_some {I : II} {L : LL} {o : Nat} {x : Option Fr} {z : Fr} {r : Int32} {I1 : II} {L1 : LL} (h : Put I L o x r I1 L1) (hx : x = some z) : r = b2i true ∧ I = I1 ∧ setF L o z = L1 := by
  obtain ⟨h1, ⟨w, hw, h2, h3⟩ | ⟨hw, -, -⟩⟩ := h
  · rw [hx] at hw
    cases hw
    exact ⟨h2, h1, h3⟩
  · rw [hx] at hw
    cases hw
/-- the place of a pair in a form's numbers -/
def ix (i j : Nat) : Nat := min i j * 5 + max i j
theorem ix_comm (i j : Nat) : ix i j = ix j i := by unfold ix; rw [Nat.min_comm, Nat.max_comm]
theorem ix_lt {i j : Nat} (h : i < 5) (h2 : j < 5) : ix i j < 25 := by unfold ix; omega
/-- the number that a form with this number at i j has in its matrix there -/
def hv (v : Int32) (i j : Nat) : Fr := red v.toInt64 (if i = j then 1 else 2)
theorem i2l_ne (v : Int32) : v.toInt64 ≠ LEA := by
  rw [ne_LEA, Int32.toInt_toInt64]
  have := Int32.le_toInt v
  simp at this
  omega
theorem hv_1 {v : Int32} {i j : Nat} (h : i = j) : fPut (decO v.toInt64) (decO 1) = some (hv v i j) := by
  rw [fPut_4 (i2l_ne v) (by decide) (by decide), hv, if_pos h]
theorem hv_2 {v : Int32} {i j : Nat} (h : ¬ i = j) : fPut (decO v.toInt64) (decO 2) = some (hv v i j) := by
  rw [fPut_4 (i2l_ne v) (by decide) (by decide), hv, if_neg h]
/-- a matrix at o, taken from numbers f, up to the place i j -/
def TK (f : Nat → Int32) (o n : Nat) (L : LL) (i j : Nat) : Prop := ∀ a b, a ≤ n → b ≤ n → (a < i ∨ (a = i ∧ b < j)) → fr L (o + 2 + (a * 5 + b)) = hv (f (ix a b)) a b
theorem TK_0 {f : Nat → Int32} {o n : Nat} {L : LL} : TK f o n L 0 0 := fun a b _ _ h => by omega
theorem TK_s {f : Nat → Int32} {o n : Nat} {L : LL} {i j : Nat} (h : TK f o n L i j) (hn : n < 5) (hj : j ≤ n) : TK f o n (setF L (o + 2 + (i * 5 + j)) (hv (f (ix i j)) i j)) i (j + 1) := by
  intro a b ha hb hab
  rw [fr_setF]
  split
  · next e =>
    have h1 : a = i := by omega
    have h2 : b = j := by omega
    rw [h1, h2]
  · next e => exact h a b ha hb (by
      rcases hab with q | ⟨q1, q2⟩
      · exact Or.inl q
      · refine Or.inr ⟨q1, ?_⟩
        have : b ≠ j := fun z => e (by rw [q1, z])
        omega)
theorem TK_n {f : Nat → Int32} {o n : Nat} {L : LL} {i j : Nat} (h : TK f o n L i j) (hj : n < j) : TK f o n L (i + 1) 0 := fun a b ha hb hab => h a b ha hb (by omega)
theorem fr_at (L : LL) (o : Nat) : fr L o = (L o 0, L o 1) := rfl
/-- a goal's number less a multiple of a condition's -/
def tlO (g c : Nat → Int32) (mu : Fr) (i j : Nat) : Option Fr := (fMul mu (hv (c (ix i j)) i j)).bind (fun x => fSub (hv (g (ix i j)) i j) x)
theorem hv_comm (v : Int32) (i j : Nat) : hv v i j = hv v j i := by
  unfold hv
  by_cases h : i = j
  · rw [if_pos h, if_pos h.symm]
  · rw [if_neg h, if_neg (fun q => h q.symm)]
theorem tlO_comm (g c : Nat → Int32) (mu : Fr) (i j : Nat) : tlO g c mu i j = tlO g c mu j i := by
  unfold tlO
  rw [ix_comm i j, hv_comm _ i j, hv_comm _ i j]
def prc (i j a b : Nat) : Prop := min a b < i ∨ (min a b = i ∧ max a b < j)
def TL (g c : Nat → Int32) (mu : Fr) (o n : Nat) (L : LL) (i j : Nat) : Prop := ∀ a b, a ≤ n → b ≤ n → (prc i j a b → tlO g c mu a b = some (fr L (o + 2 + (a * 5 + b)))) ∧ (¬ prc i j a b → fr L (o + 2 + (a * 5 + b)) = hv (g (ix a b)) a b)
theorem TL_0 {g c : Nat → Int32} {mu : Fr} {o n : Nat} {L : LL} (h : TK g o n L (n + 1) 0) : TL g c mu o n L 0 0 := fun a b ha hb => ⟨fun q => by unfold prc at q; omega, fun _ => h a b ha hb (by omega)⟩
theorem TL_n {g c : Nat → Int32} {mu : Fr} {o n : Nat} {L : LL} {i j : Nat} (h : TL g c mu o n L i j) (hj : n < j) : TL g c mu o n L (i + 1) (i + 1) := fun a b ha hb => ⟨fun q => (h a b ha hb).1 (by unfold prc at q ⊢; omega), fun q => (h a b ha hb).2 (fun z => q (by unfold prc at z ⊢; omega))⟩
theorem TL_s {g c : Nat → Int32} {mu : Fr} {o n : Nat} {L L4 : LL} {i j : Nat} {z : Fr} (h : TL g c mu o n L i j) (hn : n < 5) (hij : i ≤ j) (hj : j ≤ n) (hz : tlO g c mu i j = some z) (h1 : fr L4 (o + 2 + (i * 5 + j)) = z) (h2 : fr L4 (o + 2 + (j * 5 + i)) = z) (h3 : ∀ q, q < 25 → q ≠ i * 5 + j → q ≠ j * 5 + i → fr L4 (o + 2 + q) = fr L (o + 2 + q)) : TL g c mu o n L4 i (j + 1) := by
  intro a b ha hb
  by_cases e1 : a = i ∧ b = j
  · obtain ⟨rfl, rfl⟩ := e1
    refine ⟨fun _ => by rw [h1]; exact hz, fun q => absurd (show prc a (b + 1) a b by unfold prc; omega) q⟩
  · by_cases e2 : a = j ∧ b = i
    · obtain ⟨rfl, rfl⟩ := e2
      refine ⟨fun _ => by rw [h2, tlO_comm]; exact hz, fun q => absurd (show prc b (a + 1) a b by unfold prc; omega) q⟩
    · rw [h3 (a * 5 + b) (by omega) (by omega) (by omega)]
      refine ⟨fun q => (h a b ha hb).1 (by unfold prc at q ⊢; omega), fun q => (h a b ha hb).2 (fun z => q (by unfold prc at z ⊢; omega))⟩
end
section
set_option maxHeartbeats 4000000 in
set_option maxRecDepth 20000 in
theorem c_X2_commonDivisor (l : Launch) (G : GT) (rg : RgT) (I : II) (L : LL) (a b : Int64) (ha : a ≠ LEA) (hb : b ≠ LEA) : CtL l yX2_commonDivisor cX2_commonDivisor 11 (some FieldType.long) 1 G rg I L [.long a, .long b] (fun r I1 L1 => r = lN (gcdN a b) ∧ I = I1 ∧ L = L1) := by
  refine ctL_of [some (.long a), none, some (.long b), none, none, none, none, none, none, none, none] rfl (Nat.le_of_ble_eq_true rfl) (by decide) ?_
  intro p e s m args below meth c C hr
  have loop : ∀ (n i x y : Nat), 200 < n + i → i ≤ 200 → euI i x y → Nat.gcd x y = gcdN a b → J p l e (rmD 1) s m args below meth c (MQ below (QL G rg (fun r I1 L1 => r = lN (gcdN a b) ∧ I = I1 ∧ L = L1)) args s 0 0 (rg_A G rg)) 11 G rg 0 0 I L 31 [some (.long a), none, some (.long b), none, some (.long (lN x)), none, some (.long (lN y)), none, some (.int (nI i)), none, none] [] := by
    intro n
    induction n with
    | zero => intro i x y h1 h2; omega
    | succ n ih =>
      intro i x y h1 h2 hinv hg
      refine j_iload C dX2_commonDivisor_31 rfl ?_
      refine j_sipush (v := nI 200) C dX2_commonDivisor_33 (by decide) ?_
      first | refine n_icmp_ge (tgt := 67) C (by omega) (by omega) dX2_commonDivisor_36 (by decide) (fun h_36 => ?_) (fun h_36 => ?_) | refine j_icmp_ge (tgt := 67) C dX2_commonDivisor_36 (by decide) (fun h_36 => ?_) (fun h_36 => ?_)
      · have hy0 : y = 0 := euI_e hinv h_36
        subst hy0
        refine j_lload C dX2_commonDivisor_67 rfl ?_
        exact j_lret C hr dX2_commonDivisor_69 ⟨by rw [← hg, Nat.gcd_zero_right], rfl, rfl⟩
      · refine j_lload C dX2_commonDivisor_39 rfl ?_
        refine j_lconst (v := 0) C dX2_commonDivisor_41 (by decide) ?_
        refine j_lc_eq (tgt := 67) C dX2_commonDivisor_42 dX2_commonDivisor_43 (by decide) (fun h_43 => ?_) (fun h_43 => ?_)
        · have hy0 : y = 0 := lN_0 hinv.2.1 h_43
          subst hy0
          refine j_lload C dX2_commonDivisor_67 rfl ?_
          exact j_lret C hr dX2_commonDivisor_69 ⟨by rw [← hg, Nat.gcd_zero_right], rfl, rfl⟩
        · refine j_lload C dX2_commonDivisor_46 rfl ?_
          refine j_lload C dX2_commonDivisor_48 rfl ?_
          refine j_lrem C dX2_commonDivisor_50 (by assumption) ?_
          have hy0 : y ≠ 0 := fun q => h_43 (by rw [q]; rfl)
          refine t_l (pk_lRem hinv.1 (Nat.pos_of_ne_zero hy0) hinv.2.1) ?_
          refine j_lstore C dX2_commonDivisor_51 (by decide) ?_
          refine j_lload C dX2_commonDivisor_53 rfl ?_
          refine j_lstore C dX2_commonDivisor_55 (by decide) ?_
          refine j_lload C dX2_commonDivisor_57 rfl ?_
          refine j_lstore C dX2_commonDivisor_59 (by decide) ?_
          first | refine n_iinc (n := 1) C dX2_commonDivisor_61 rfl (by decide) ?_ | refine j_iinc C dX2_commonDivisor_61 rfl rfl (by decide) ?_
          refine j_goto (tgt := 31) C dX2_commonDivisor_64 (by decide) ?_
          refine j_rm 9 ?_
          exact ih (i + 1) y (x % y) (by omega) (by omega) (euI_s hinv hy0) (gcd_s hg)
  refine j_lload_n C dX2_commonDivisor_0 rfl rfl ?_
  refine j_lconst (v := 0) C dX2_commonDivisor_1 (by decide) ?_
  refine j_lc_ge (tgt := 11) C dX2_commonDivisor_2 dX2_commonDivisor_3 (by decide) (fun h_3 => ?_) (fun h_3 => ?_)
  · refine j_lload_n C dX2_commonDivisor_11 rfl rfl ?_
    refine t_l (abs_pos ha h_3) ?_
    refine j_lstore C dX2_commonDivisor_12 (by decide) ?_
    refine j_lload_n C dX2_commonDivisor_14 rfl rfl ?_
    refine j_lconst (v := 0) C dX2_commonDivisor_15 (by decide) ?_
    refine j_lc_ge (tgt := 25) C dX2_commonDivisor_16 dX2_commonDivisor_17 (by decide) (fun h_17 => ?_) (fun h_17 => ?_)
    · refine j_lload_n C dX2_commonDivisor_25 rfl rfl ?_
      refine t_l (abs_pos hb h_17) ?_
      refine j_lstore C dX2_commonDivisor_26 (by decide) ?_
      refine j_iconst (v := nI 0) C dX2_commonDivisor_28 (by decide) ?_
      refine j_istore C dX2_commonDivisor_29 (by decide) ?_
      exact loop 201 0 (absN a) (absN b) (by omega) (by omega) (euI_0 (absN_lt ha) (absN_lt hb)) rfl
    · refine j_lload_n C dX2_commonDivisor_20 rfl rfl ?_
      refine j_lneg C dX2_commonDivisor_21 ?_
      refine t_l (abs_neg hb h_17) ?_
      refine j_goto (tgt := 26) C dX2_commonDivisor_22 (by decide) ?_
      refine j_lstore C dX2_commonDivisor_26 (by decide) ?_
      refine j_iconst (v := nI 0) C dX2_commonDivisor_28 (by decide) ?_
      refine j_istore C dX2_commonDivisor_29 (by decide) ?_
      exact loop 201 0 (absN a) (absN b) (by omega) (by omega) (euI_0 (absN_lt ha) (absN_lt hb)) rfl
  · refine j_lload_n C dX2_commonDivisor_6 rfl rfl ?_
    refine j_lneg C dX2_commonDivisor_7 ?_
    refine t_l (abs_neg ha h_3) ?_
    refine j_goto (tgt := 12) C dX2_commonDivisor_8 (by decide) ?_
    refine j_lstore C dX2_commonDivisor_12 (by decide) ?_
    refine j_lload_n C dX2_commonDivisor_14 rfl rfl ?_
    refine j_lconst (v := 0) C dX2_commonDivisor_15 (by decide) ?_
    refine j_lc_ge (tgt := 25) C dX2_commonDivisor_16 dX2_commonDivisor_17 (by decide) (fun h_17 => ?_) (fun h_17 => ?_)
    · refine j_lload_n C dX2_commonDivisor_25 rfl rfl ?_
      refine t_l (abs_pos hb h_17) ?_
      refine j_lstore C dX2_commonDivisor_26 (by decide) ?_
      refine j_iconst (v := nI 0) C dX2_commonDivisor_28 (by decide) ?_
      refine j_istore C dX2_commonDivisor_29 (by decide) ?_
      exact loop 201 0 (absN a) (absN b) (by omega) (by omega) (euI_0 (absN_lt ha) (absN_lt hb)) rfl
    · refine j_lload_n C dX2_commonDivisor_20 rfl rfl ?_
      refine j_lneg C dX2_commonDivisor_21 ?_
      refine t_l (abs_neg hb h_17) ?_
      refine j_goto (tgt := 26) C dX2_commonDivisor_22 (by decide) ?_
      refine j_lstore C dX2_commonDivisor_26 (by decide) ?_
      refine j_iconst (v := nI 0) C dX2_commonDivisor_28 (by decide) ?_
      refine j_istore C dX2_commonDivisor_29 (by decide) ?_
      exact loop 201 0 (absN a) (absN b) (by omega) (by omega) (euI_0 (absN_lt ha) (absN_lt hb)) rfl

set_option maxHeartbeats 4000000 in
set_option maxRecDepth 20000 in
theorem c_X2_times (l : Launch) (G : GT) (rg : RgT) (I : II) (L : LL) (a b : Int64)  : CtL l yX2_times cX2_times 6 (some FieldType.long) 1 G rg I L [.long a, .long b] (fun r I1 L1 => r = enc (mulO a b) ∧ I = I1 ∧ L = L1) := by
  refine ctL_of [some (.long a), none, some (.long b), none, none, none] rfl (Nat.le_of_ble_eq_true rfl) (by decide) ?_
  intro p e s m args below meth c C hr
  refine j_lload_n C dX2_times_0 rfl rfl ?_
  refine j_lload_n C dX2_times_1 rfl rfl ?_
  refine j_lmul C dX2_times_2 ?_
  refine j_lstore C dX2_times_3 (by decide) ?_
  refine j_lload_n C dX2_times_5 rfl rfl ?_
  refine j_lconst (v := 0) C dX2_times_6 (by decide) ?_
  refine j_lc_eq (tgt := 26) C dX2_times_7 dX2_times_8 (by decide) (fun h_8 => ?_) (fun h_8 => ?_)
  · refine j_lload C dX2_times_26 rfl ?_
    exact j_lret C hr dX2_times_28 (⟨(mul_chk0 h_8).symm, rfl, rfl⟩)
  · refine j_lload C dX2_times_11 rfl ?_
    refine j_lload_n C dX2_times_13 rfl rfl ?_
    refine j_ldiv C dX2_times_14 (h_8) ?_
    refine j_lload_n C dX2_times_15 rfl rfl ?_
    refine j_lc_eq (tgt := 26) C dX2_times_16 dX2_times_17 (by decide) (fun h_17 => ?_) (fun h_17 => ?_)
    · refine j_lload C dX2_times_26 rfl ?_
      exact j_lret C hr dX2_times_28 (⟨(mul_chk h_8 h_17).symm, rfl, rfl⟩)
    · refine j_ldc2 C kc_X2_18 dX2_times_20 ?_
      refine j_goto (tgt := 28) C dX2_times_23 (by decide) ?_
      exact j_lret C hr dX2_times_28 (⟨(mul_chkN h_8 h_17).symm, rfl, rfl⟩)

set_option maxHeartbeats 4000000 in
set_option maxRecDepth 20000 in
theorem c_X2_plus (l : Launch) (G : GT) (rg : RgT) (I : II) (L : LL) (a b : Int64)  : CtL l yX2_plus cX2_plus 7 (some FieldType.long) 1 G rg I L [.long a, .long b] (fun r I1 L1 => r = enc (addOO (decO a) (decO b)) ∧ I = I1 ∧ L = L1) := by
  refine ctL_of [some (.long a), none, some (.long b), none, none, none, none] rfl (Nat.le_of_ble_eq_true rfl) (by decide) ?_
  intro p e s m args below meth c C hr
  refine j_lload_n C dX2_plus_0 rfl rfl ?_
  refine j_lload_n C dX2_plus_1 rfl rfl ?_
  refine j_ladd C dX2_plus_2 ?_
  refine j_lstore C dX2_plus_3 (by decide) ?_
  refine j_lload_n C dX2_plus_5 rfl rfl ?_
  refine j_lload C dX2_plus_6 rfl ?_
  refine j_lxor C dX2_plus_8 ?_
  refine j_lload_n C dX2_plus_9 rfl rfl ?_
  refine j_lload C dX2_plus_10 rfl ?_
  refine j_lxor C dX2_plus_12 ?_
  refine j_land C dX2_plus_13 ?_
  refine j_lconst (v := 0) C dX2_plus_14 (by decide) ?_
  refine j_lc_ge (tgt := 23) C dX2_plus_15 dX2_plus_16 (by decide) (fun h_16 => ?_) (fun h_16 => ?_)
  · refine j_iconst (v := nI 0) C dX2_plus_23 (by decide) ?_
    refine j_istore C dX2_plus_24 (by decide) ?_
    refine j_iload C dX2_plus_26 rfl ?_
    refine j_if_ne (tgt := 47) C dX2_plus_28 (by decide) (fun h_28 => ?_) (fun h_28 => ?_)
    · exact absurd rfl h_28
    · refine j_lload_n C dX2_plus_31 rfl rfl ?_
      refine j_ldc2 C kc_X2_18 dX2_plus_32 ?_
      refine j_lc_eq (tgt := 47) C dX2_plus_35 dX2_plus_36 (by decide) (fun h_36 => ?_) (fun h_36 => ?_)
      · refine j_ldc2 C kc_X2_18 dX2_plus_47 ?_
        refine j_goto (tgt := 55) C dX2_plus_50 (by decide) ?_
        exact j_lret C hr dX2_plus_55 (by first | exact ⟨(plus_bad (Or.inl (by rw [← Int64.not_le]; assumption))).symm, rfl, rfl⟩ | exact ⟨(plus_bad (Or.inr (Or.inl (by assumption)))).symm, rfl, rfl⟩ | exact ⟨(plus_bad (Or.inr (Or.inr (by assumption)))).symm, rfl, rfl⟩ | exact ⟨(plus_ok (by rw [Int64.not_lt]; assumption) (by assumption) (by assumption)).symm, rfl, rfl⟩)
      · refine j_lload_n C dX2_plus_39 rfl rfl ?_
        refine j_ldc2 C kc_X2_18 dX2_plus_40 ?_
        refine j_lc_ne (tgt := 53) C dX2_plus_43 dX2_plus_44 (by decide) (fun h_44 => ?_) (fun h_44 => ?_)
        · refine j_lload C dX2_plus_53 rfl ?_
          exact j_lret C hr dX2_plus_55 (by first | exact ⟨(plus_bad (Or.inl (by rw [← Int64.not_le]; assumption))).symm, rfl, rfl⟩ | exact ⟨(plus_bad (Or.inr (Or.inl (by assumption)))).symm, rfl, rfl⟩ | exact ⟨(plus_bad (Or.inr (Or.inr (by assumption)))).symm, rfl, rfl⟩ | exact ⟨(plus_ok (by rw [Int64.not_lt]; assumption) (by assumption) (by assumption)).symm, rfl, rfl⟩)
        · refine j_ldc2 C kc_X2_18 dX2_plus_47 ?_
          refine j_goto (tgt := 55) C dX2_plus_50 (by decide) ?_
          exact j_lret C hr dX2_plus_55 (by first | exact ⟨(plus_bad (Or.inl (by rw [← Int64.not_le]; assumption))).symm, rfl, rfl⟩ | exact ⟨(plus_bad (Or.inr (Or.inl (by assumption)))).symm, rfl, rfl⟩ | exact ⟨(plus_bad (Or.inr (Or.inr (by assumption)))).symm, rfl, rfl⟩ | exact ⟨(plus_ok (by rw [Int64.not_lt]; assumption) (by assumption) (by assumption)).symm, rfl, rfl⟩)
  · refine j_iconst (v := nI 1) C dX2_plus_19 (by decide) ?_
    refine j_goto (tgt := 24) C dX2_plus_20 (by decide) ?_
    refine j_istore C dX2_plus_24 (by decide) ?_
    refine j_iload C dX2_plus_26 rfl ?_
    refine j_if_ne (tgt := 47) C dX2_plus_28 (by decide) (fun h_28 => ?_) (fun h_28 => ?_)
    · refine j_ldc2 C kc_X2_18 dX2_plus_47 ?_
      refine j_goto (tgt := 55) C dX2_plus_50 (by decide) ?_
      exact j_lret C hr dX2_plus_55 (by first | exact ⟨(plus_bad (Or.inl (by rw [← Int64.not_le]; assumption))).symm, rfl, rfl⟩ | exact ⟨(plus_bad (Or.inr (Or.inl (by assumption)))).symm, rfl, rfl⟩ | exact ⟨(plus_bad (Or.inr (Or.inr (by assumption)))).symm, rfl, rfl⟩ | exact ⟨(plus_ok (by rw [Int64.not_lt]; assumption) (by assumption) (by assumption)).symm, rfl, rfl⟩)
    · exact absurd h_28 (by decide)

set_option maxHeartbeats 4000000 in
set_option maxRecDepth 20000 in
theorem c_X2_minus (l : Launch) (G : GT) (rg : RgT) (I : II) (L : LL) (a b : Int64)  : CtL l yX2_minus cX2_minus 7 (some FieldType.long) 1 G rg I L [.long a, .long b] (fun r I1 L1 => r = enc (subOO (decO a) (decO b)) ∧ I = I1 ∧ L = L1) := by
  refine ctL_of [some (.long a), none, some (.long b), none, none, none, none] rfl (Nat.le_of_ble_eq_true rfl) (by decide) ?_
  intro p e s m args below meth c C hr
  refine j_lload_n C dX2_minus_0 rfl rfl ?_
  refine j_lload_n C dX2_minus_1 rfl rfl ?_
  refine j_lsub C dX2_minus_2 ?_
  refine j_lstore C dX2_minus_3 (by decide) ?_
  refine j_lload_n C dX2_minus_5 rfl rfl ?_
  refine j_lload_n C dX2_minus_6 rfl rfl ?_
  refine j_lxor C dX2_minus_7 ?_
  refine j_lload_n C dX2_minus_8 rfl rfl ?_
  refine j_lload C dX2_minus_9 rfl ?_
  refine j_lxor C dX2_minus_11 ?_
  refine j_land C dX2_minus_12 ?_
  refine j_lconst (v := 0) C dX2_minus_13 (by decide) ?_
  refine j_lc_ge (tgt := 22) C dX2_minus_14 dX2_minus_15 (by decide) (fun h_15 => ?_) (fun h_15 => ?_)
  · refine j_iconst (v := nI 0) C dX2_minus_22 (by decide) ?_
    refine j_istore C dX2_minus_23 (by decide) ?_
    refine j_iload C dX2_minus_25 rfl ?_
    refine j_if_ne (tgt := 46) C dX2_minus_27 (by decide) (fun h_27 => ?_) (fun h_27 => ?_)
    · exact absurd rfl h_27
    · refine j_lload_n C dX2_minus_30 rfl rfl ?_
      refine j_ldc2 C kc_X2_18 dX2_minus_31 ?_
      refine j_lc_eq (tgt := 46) C dX2_minus_34 dX2_minus_35 (by decide) (fun h_35 => ?_) (fun h_35 => ?_)
      · refine j_ldc2 C kc_X2_18 dX2_minus_46 ?_
        refine j_goto (tgt := 54) C dX2_minus_49 (by decide) ?_
        exact j_lret C hr dX2_minus_54 (by first | exact ⟨(minus_bad (Or.inl (by rw [← Int64.not_le]; assumption))).symm, rfl, rfl⟩ | exact ⟨(minus_bad (Or.inr (Or.inl (by assumption)))).symm, rfl, rfl⟩ | exact ⟨(minus_bad (Or.inr (Or.inr (by assumption)))).symm, rfl, rfl⟩ | exact ⟨(minus_ok (by rw [Int64.not_lt]; assumption) (by assumption) (by assumption)).symm, rfl, rfl⟩)
      · refine j_lload_n C dX2_minus_38 rfl rfl ?_
        refine j_ldc2 C kc_X2_18 dX2_minus_39 ?_
        refine j_lc_ne (tgt := 52) C dX2_minus_42 dX2_minus_43 (by decide) (fun h_43 => ?_) (fun h_43 => ?_)
        · refine j_lload C dX2_minus_52 rfl ?_
          exact j_lret C hr dX2_minus_54 (by first | exact ⟨(minus_bad (Or.inl (by rw [← Int64.not_le]; assumption))).symm, rfl, rfl⟩ | exact ⟨(minus_bad (Or.inr (Or.inl (by assumption)))).symm, rfl, rfl⟩ | exact ⟨(minus_bad (Or.inr (Or.inr (by assumption)))).symm, rfl, rfl⟩ | exact ⟨(minus_ok (by rw [Int64.not_lt]; assumption) (by assumption) (by assumption)).symm, rfl, rfl⟩)
        · refine j_ldc2 C kc_X2_18 dX2_minus_46 ?_
          refine j_goto (tgt := 54) C dX2_minus_49 (by decide) ?_
          exact j_lret C hr dX2_minus_54 (by first | exact ⟨(minus_bad (Or.inl (by rw [← Int64.not_le]; assumption))).symm, rfl, rfl⟩ | exact ⟨(minus_bad (Or.inr (Or.inl (by assumption)))).symm, rfl, rfl⟩ | exact ⟨(minus_bad (Or.inr (Or.inr (by assumption)))).symm, rfl, rfl⟩ | exact ⟨(minus_ok (by rw [Int64.not_lt]; assumption) (by assumption) (by assumption)).symm, rfl, rfl⟩)
  · refine j_iconst (v := nI 1) C dX2_minus_18 (by decide) ?_
    refine j_goto (tgt := 23) C dX2_minus_19 (by decide) ?_
    refine j_istore C dX2_minus_23 (by decide) ?_
    refine j_iload C dX2_minus_25 rfl ?_
    refine j_if_ne (tgt := 46) C dX2_minus_27 (by decide) (fun h_27 => ?_) (fun h_27 => ?_)
    · refine j_ldc2 C kc_X2_18 dX2_minus_46 ?_
      refine j_goto (tgt := 54) C dX2_minus_49 (by decide) ?_
      exact j_lret C hr dX2_minus_54 (by first | exact ⟨(minus_bad (Or.inl (by rw [← Int64.not_le]; assumption))).symm, rfl, rfl⟩ | exact ⟨(minus_bad (Or.inr (Or.inl (by assumption)))).symm, rfl, rfl⟩ | exact ⟨(minus_bad (Or.inr (Or.inr (by assumption)))).symm, rfl, rfl⟩ | exact ⟨(minus_ok (by rw [Int64.not_lt]; assumption) (by assumption) (by assumption)).symm, rfl, rfl⟩)
    · exact absurd h_27 (by decide)

set_option maxHeartbeats 4000000 in
set_option maxRecDepth 20000 in
theorem c_X2_put (l : Launch) (G : GT) (rg : RgT) (I : II) (L : LL) (o : Nat) (u v : Int64) (ho : isF rg o) : CtI l yX2_put cX2_put 7 (some FieldType.boolean) 2 G rg I L [.ref (gB G + o), .long u, .long v] (Put I L o (fPut (decO u) (decO v))) := by
  refine ctI_of [some (.ref (gB G + o)), some (.long u), none, some (.long v), none, none, none] rfl (Nat.le_of_ble_eq_true rfl) (by decide) ?_
  intro p e s m args below meth c C hr
  refine j_lload_n C dX2_put_0 rfl rfl ?_
  refine j_ldc2 C kc_X2_18 dX2_put_1 ?_
  refine j_lc_eq (tgt := 22) C dX2_put_4 dX2_put_5 (by decide) (fun h_5 => ?_) (fun h_5 => ?_)
  · refine j_iconst (v := nI 0) C dX2_put_22 (by decide) ?_
    exact j_zret C hr (by first | rfl | exact b2i_n _ rfl) dX2_put_23 (⟨rfl, Or.inr ⟨fPut_1 h_5, rfl, rfl⟩⟩)
  · refine j_lload_n C dX2_put_8 rfl rfl ?_
    refine j_ldc2 C kc_X2_18 dX2_put_9 ?_
    refine j_lc_eq (tgt := 22) C dX2_put_12 dX2_put_13 (by decide) (fun h_13 => ?_) (fun h_13 => ?_)
    · refine j_iconst (v := nI 0) C dX2_put_22 (by decide) ?_
      exact j_zret C hr (by first | rfl | exact b2i_n _ rfl) dX2_put_23 (⟨rfl, Or.inr ⟨fPut_2 h_13, rfl, rfl⟩⟩)
    · refine j_lload_n C dX2_put_16 rfl rfl ?_
      refine j_lconst (v := 0) C dX2_put_17 (by decide) ?_
      refine j_lc_ne (tgt := 24) C dX2_put_18 dX2_put_19 (by decide) (fun h_19 => ?_) (fun h_19 => ?_)
      · refine j_lload_n C dX2_put_24 rfl rfl ?_
        refine j_lload_n C dX2_put_25 rfl rfl ?_
        refine j_csL C sc_X2_20 (c_X2_commonDivisor l G rg _ _ _ _ (by assumption) (by assumption)) ⟨Nat.le_of_ble_eq_true rfl, Nat.le_of_ble_eq_true rfl⟩ rfl rfl (Nat.le_of_ble_eq_true rfl) ⟨Nat.zero_le _, Nat.zero_le _⟩ dX2_put_26 (fun r_26 I_26 L_26 p_26 => ?_)
        obtain ⟨rfl, rfl, rfl⟩ := p_26
        refine j_lstore C dX2_put_29 (by decide) ?_
        refine j_lload C dX2_put_31 rfl ?_
        refine j_lconst (v := 0) C dX2_put_33 (by decide) ?_
        refine j_lc_ne (tgt := 40) C dX2_put_34 dX2_put_35 (by decide) (fun h_35 => ?_) (fun h_35 => ?_)
        · refine j_lload_n C dX2_put_40 rfl rfl ?_
          refine j_lconst (v := 0) C dX2_put_41 (by decide) ?_
          refine j_lc_ge (tgt := 51) C dX2_put_42 dX2_put_43 (by decide) (fun h_43 => ?_) (fun h_43 => ?_)
          · refine j_aload_n C dX2_put_51 rfl rfl ?_
            refine j_lload_n C dX2_put_52 rfl rfl ?_
            refine j_lload C dX2_put_53 rfl ?_
            refine j_ldiv C dX2_put_55 (h_35) ?_
            refine g_putL C (by assumption) fw_X2_9 (by rfl) rfl (fits_long _) dX2_put_56 ?_
            refine j_aload_n C dX2_put_59 rfl rfl ?_
            refine j_lload_n C dX2_put_60 rfl rfl ?_
            refine j_lload C dX2_put_61 rfl ?_
            refine j_ldiv C dX2_put_63 (h_35) ?_
            refine g_putL C (by assumption) fw_X2_15 (by rfl) rfl (fits_long _) dX2_put_64 ?_
            refine j_iconst (v := nI 1) C dX2_put_67 (by decide) ?_
            exact j_zret C hr (by first | rfl | exact b2i_n _ rfl) dX2_put_68 (⟨rfl, Or.inl ⟨_, fPut_4 h_5 h_13 h_19, rfl, by rw [red_p h_43]; rfl⟩⟩)
          · refine j_lload C dX2_put_46 rfl ?_
            refine j_lneg C dX2_put_48 ?_
            refine j_lstore C dX2_put_49 (by decide) ?_
            refine j_aload_n C dX2_put_51 rfl rfl ?_
            refine j_lload_n C dX2_put_52 rfl rfl ?_
            refine j_lload C dX2_put_53 rfl ?_
            refine j_ldiv C dX2_put_55 (ng0 h_35) ?_
            refine g_putL C (by assumption) fw_X2_9 (by rfl) rfl (fits_long _) dX2_put_56 ?_
            refine j_aload_n C dX2_put_59 rfl rfl ?_
            refine j_lload_n C dX2_put_60 rfl rfl ?_
            refine j_lload C dX2_put_61 rfl ?_
            refine j_ldiv C dX2_put_63 (ng0 h_35) ?_
            refine g_putL C (by assumption) fw_X2_15 (by rfl) rfl (fits_long _) dX2_put_64 ?_
            refine j_iconst (v := nI 1) C dX2_put_67 (by decide) ?_
            exact j_zret C hr (by first | rfl | exact b2i_n _ rfl) dX2_put_68 (⟨rfl, Or.inl ⟨_, fPut_4 h_5 h_13 h_19, rfl, by rw [red_n h_43]; rfl⟩⟩)
        · refine j_iconst (v := nI 0) C dX2_put_38 (by decide) ?_
          exact j_zret C hr (by first | rfl | exact b2i_n _ rfl) dX2_put_39 (absurd h_35 (gcd_n0 h_5 h_13 h_19))
      · refine j_iconst (v := nI 0) C dX2_put_22 (by decide) ?_
        exact j_zret C hr (by first | rfl | exact b2i_n _ rfl) dX2_put_23 (⟨rfl, Or.inr ⟨fPut_3 h_19, rfl, rfl⟩⟩)

set_option maxHeartbeats 4000000 in
set_option maxRecDepth 20000 in
theorem c_X2_copy (l : Launch) (G : GT) (rg : RgT) (I : II) (L : LL) (o a : Nat) (ho : isF rg o) (ha : isF rg a) : CtV l yX2_copy cX2_copy 2 none 1 G rg I L [.ref (gB G + o), .ref (gB G + a)] (fun I1 L1 => I = I1 ∧ setF L o (fr L a) = L1) := by
  refine ctV_of [some (.ref (gB G + o)), some (.ref (gB G + a))] rfl (Nat.le_of_ble_eq_true rfl) (by decide) ?_
  intro p e s m args below meth c C hr
  refine j_aload_n C dX2_copy_0 rfl rfl ?_
  refine j_aload_n C dX2_copy_1 rfl rfl ?_
  refine g_getL C (by assumption) fl_X2_9 (by rfl) dX2_copy_2 ?_
  refine g_putL C (by assumption) fw_X2_9 (by rfl) rfl (fits_long _) dX2_copy_5 ?_
  refine j_aload_n C dX2_copy_8 rfl rfl ?_
  refine j_aload_n C dX2_copy_9 rfl rfl ?_
  refine g_getL C (by assumption) fl_X2_15 (by rfl) dX2_copy_10 ?_
  refine t_l (y := L a 1) (by rw [up2_at]; split <;> simp_all) ?_
  refine g_putL C (by assumption) fw_X2_15 (by rfl) rfl (fits_long _) dX2_copy_13 ?_
  exact j_vret C hr dX2_copy_16 (⟨rfl, rfl⟩)

set_option maxHeartbeats 4000000 in
set_option maxRecDepth 20000 in
theorem c_X2_sum (l : Launch) (G : GT) (rg : RgT) (I : II) (L : LL) (o a b : Nat) (ho : isF rg o) (ha : isF rg a) (hb : isF rg b) : CtI l yX2_sum cX2_sum 3 (some FieldType.boolean) 3 G rg I L [.ref (gB G + o), .ref (gB G + a), .ref (gB G + b)] (Put I L o (fAdd (fr L a) (fr L b))) := by
  refine ctI_of [some (.ref (gB G + o)), some (.ref (gB G + a)), some (.ref (gB G + b))] rfl (Nat.le_of_ble_eq_true rfl) (by decide) ?_
  intro p e s m args below meth c C hr
  refine j_aload_n C dX2_sum_0 rfl rfl ?_
  refine j_aload_n C dX2_sum_1 rfl rfl ?_
  refine g_getL C (by assumption) fl_X2_9 (by rfl) dX2_sum_2 ?_
  refine j_aload_n C dX2_sum_5 rfl rfl ?_
  refine g_getL C (by assumption) fl_X2_15 (by rfl) dX2_sum_6 ?_
  refine j_csL C sc_X2_24 (c_X2_times l G rg _ _ _ _) ⟨Nat.le_of_ble_eq_true rfl, Nat.le_of_ble_eq_true rfl⟩ rfl rfl (Nat.le_of_ble_eq_true rfl) ⟨Nat.zero_le _, Nat.zero_le _⟩ dX2_sum_9 (fun r_9 I_9 L_9 p_9 => ?_)
  obtain ⟨rfl, rfl, rfl⟩ := p_9
  refine j_aload_n C dX2_sum_12 rfl rfl ?_
  refine g_getL C (by assumption) fl_X2_9 (by rfl) dX2_sum_13 ?_
  refine j_aload_n C dX2_sum_16 rfl rfl ?_
  refine g_getL C (by assumption) fl_X2_15 (by rfl) dX2_sum_17 ?_
  refine j_csL C sc_X2_24 (c_X2_times l G rg _ _ _ _) ⟨Nat.le_of_ble_eq_true rfl, Nat.le_of_ble_eq_true rfl⟩ rfl rfl (Nat.le_of_ble_eq_true rfl) ⟨Nat.zero_le _, Nat.zero_le _⟩ dX2_sum_20 (fun r_20 I_20 L_20 p_20 => ?_)
  obtain ⟨rfl, rfl, rfl⟩ := p_20
  refine j_csL C sc_X2_27 (c_X2_plus l G rg _ _ _ _) ⟨Nat.le_of_ble_eq_true rfl, Nat.le_of_ble_eq_true rfl⟩ rfl rfl (Nat.le_of_ble_eq_true rfl) ⟨Nat.zero_le _, Nat.zero_le _⟩ dX2_sum_23 (fun r_23 I_23 L_23 p_23 => ?_)
  obtain ⟨rfl, rfl, rfl⟩ := p_23
  refine j_aload_n C dX2_sum_26 rfl rfl ?_
  refine g_getL C (by assumption) fl_X2_15 (by rfl) dX2_sum_27 ?_
  refine j_aload_n C dX2_sum_30 rfl rfl ?_
  refine g_getL C (by assumption) fl_X2_15 (by rfl) dX2_sum_31 ?_
  refine j_csL C sc_X2_24 (c_X2_times l G rg _ _ _ _) ⟨Nat.le_of_ble_eq_true rfl, Nat.le_of_ble_eq_true rfl⟩ rfl rfl (Nat.le_of_ble_eq_true rfl) ⟨Nat.zero_le _, Nat.zero_le _⟩ dX2_sum_34 (fun r_34 I_34 L_34 p_34 => ?_)
  obtain ⟨rfl, rfl, rfl⟩ := p_34
  refine g_cvI C vc_X2_30 (c_X2_put l G rg _ _ _ _ _ (by assumption)) ⟨Nat.le_of_ble_eq_true rfl, Nat.le_of_ble_eq_true rfl⟩ (by assumption) rfl rfl (Nat.le_of_ble_eq_true rfl) ⟨Nat.zero_le _, Nat.zero_le _⟩ dX2_sum_37 (fun r_37 I_37 L_37 p_37 => ?_)
  exact j_zret C hr (by rcases p_37 with ⟨-, ⟨z, -, rfl, -⟩ | ⟨-, rfl, -⟩⟩ <;> rfl) dX2_sum_40 (by simp only [dec_mul, dec_addOO, dec_subOO] at p_37; exact p_37)

set_option maxHeartbeats 4000000 in
set_option maxRecDepth 20000 in
theorem c_X2_difference (l : Launch) (G : GT) (rg : RgT) (I : II) (L : LL) (o a b : Nat) (ho : isF rg o) (ha : isF rg a) (hb : isF rg b) : CtI l yX2_difference cX2_difference 3 (some FieldType.boolean) 3 G rg I L [.ref (gB G + o), .ref (gB G + a), .ref (gB G + b)] (Put I L o (fSub (fr L a) (fr L b))) := by
  refine ctI_of [some (.ref (gB G + o)), some (.ref (gB G + a)), some (.ref (gB G + b))] rfl (Nat.le_of_ble_eq_true rfl) (by decide) ?_
  intro p e s m args below meth c C hr
  refine j_aload_n C dX2_difference_0 rfl rfl ?_
  refine j_aload_n C dX2_difference_1 rfl rfl ?_
  refine g_getL C (by assumption) fl_X2_9 (by rfl) dX2_difference_2 ?_
  refine j_aload_n C dX2_difference_5 rfl rfl ?_
  refine g_getL C (by assumption) fl_X2_15 (by rfl) dX2_difference_6 ?_
  refine j_csL C sc_X2_24 (c_X2_times l G rg _ _ _ _) ⟨Nat.le_of_ble_eq_true rfl, Nat.le_of_ble_eq_true rfl⟩ rfl rfl (Nat.le_of_ble_eq_true rfl) ⟨Nat.zero_le _, Nat.zero_le _⟩ dX2_difference_9 (fun r_9 I_9 L_9 p_9 => ?_)
  obtain ⟨rfl, rfl, rfl⟩ := p_9
  refine j_aload_n C dX2_difference_12 rfl rfl ?_
  refine g_getL C (by assumption) fl_X2_9 (by rfl) dX2_difference_13 ?_
  refine j_aload_n C dX2_difference_16 rfl rfl ?_
  refine g_getL C (by assumption) fl_X2_15 (by rfl) dX2_difference_17 ?_
  refine j_csL C sc_X2_24 (c_X2_times l G rg _ _ _ _) ⟨Nat.le_of_ble_eq_true rfl, Nat.le_of_ble_eq_true rfl⟩ rfl rfl (Nat.le_of_ble_eq_true rfl) ⟨Nat.zero_le _, Nat.zero_le _⟩ dX2_difference_20 (fun r_20 I_20 L_20 p_20 => ?_)
  obtain ⟨rfl, rfl, rfl⟩ := p_20
  refine j_csL C sc_X2_34 (c_X2_minus l G rg _ _ _ _) ⟨Nat.le_of_ble_eq_true rfl, Nat.le_of_ble_eq_true rfl⟩ rfl rfl (Nat.le_of_ble_eq_true rfl) ⟨Nat.zero_le _, Nat.zero_le _⟩ dX2_difference_23 (fun r_23 I_23 L_23 p_23 => ?_)
  obtain ⟨rfl, rfl, rfl⟩ := p_23
  refine j_aload_n C dX2_difference_26 rfl rfl ?_
  refine g_getL C (by assumption) fl_X2_15 (by rfl) dX2_difference_27 ?_
  refine j_aload_n C dX2_difference_30 rfl rfl ?_
  refine g_getL C (by assumption) fl_X2_15 (by rfl) dX2_difference_31 ?_
  refine j_csL C sc_X2_24 (c_X2_times l G rg _ _ _ _) ⟨Nat.le_of_ble_eq_true rfl, Nat.le_of_ble_eq_true rfl⟩ rfl rfl (Nat.le_of_ble_eq_true rfl) ⟨Nat.zero_le _, Nat.zero_le _⟩ dX2_difference_34 (fun r_34 I_34 L_34 p_34 => ?_)
  obtain ⟨rfl, rfl, rfl⟩ := p_34
  refine g_cvI C vc_X2_30 (c_X2_put l G rg _ _ _ _ _ (by assumption)) ⟨Nat.le_of_ble_eq_true rfl, Nat.le_of_ble_eq_true rfl⟩ (by assumption) rfl rfl (Nat.le_of_ble_eq_true rfl) ⟨Nat.zero_le _, Nat.zero_le _⟩ dX2_difference_37 (fun r_37 I_37 L_37 p_37 => ?_)
  exact j_zret C hr (by rcases p_37 with ⟨-, ⟨z, -, rfl, -⟩ | ⟨-, rfl, -⟩⟩ <;> rfl) dX2_difference_40 (by simp only [dec_mul, dec_addOO, dec_subOO] at p_37; exact p_37)

set_option maxHeartbeats 4000000 in
set_option maxRecDepth 20000 in
theorem c_X2_product (l : Launch) (G : GT) (rg : RgT) (I : II) (L : LL) (o a b : Nat) (ho : isF rg o) (ha : isF rg a) (hb : isF rg b) : CtI l yX2_product cX2_product 3 (some FieldType.boolean) 3 G rg I L [.ref (gB G + o), .ref (gB G + a), .ref (gB G + b)] (Put I L o (fMul (fr L a) (fr L b))) := by
  refine ctI_of [some (.ref (gB G + o)), some (.ref (gB G + a)), some (.ref (gB G + b))] rfl (Nat.le_of_ble_eq_true rfl) (by decide) ?_
  intro p e s m args below meth c C hr
  refine j_aload_n C dX2_product_0 rfl rfl ?_
  refine j_aload_n C dX2_product_1 rfl rfl ?_
  refine g_getL C (by assumption) fl_X2_9 (by rfl) dX2_product_2 ?_
  refine j_aload_n C dX2_product_5 rfl rfl ?_
  refine g_getL C (by assumption) fl_X2_9 (by rfl) dX2_product_6 ?_
  refine j_csL C sc_X2_24 (c_X2_times l G rg _ _ _ _) ⟨Nat.le_of_ble_eq_true rfl, Nat.le_of_ble_eq_true rfl⟩ rfl rfl (Nat.le_of_ble_eq_true rfl) ⟨Nat.zero_le _, Nat.zero_le _⟩ dX2_product_9 (fun r_9 I_9 L_9 p_9 => ?_)
  obtain ⟨rfl, rfl, rfl⟩ := p_9
  refine j_aload_n C dX2_product_12 rfl rfl ?_
  refine g_getL C (by assumption) fl_X2_15 (by rfl) dX2_product_13 ?_
  refine j_aload_n C dX2_product_16 rfl rfl ?_
  refine g_getL C (by assumption) fl_X2_15 (by rfl) dX2_product_17 ?_
  refine j_csL C sc_X2_24 (c_X2_times l G rg _ _ _ _) ⟨Nat.le_of_ble_eq_true rfl, Nat.le_of_ble_eq_true rfl⟩ rfl rfl (Nat.le_of_ble_eq_true rfl) ⟨Nat.zero_le _, Nat.zero_le _⟩ dX2_product_20 (fun r_20 I_20 L_20 p_20 => ?_)
  obtain ⟨rfl, rfl, rfl⟩ := p_20
  refine g_cvI C vc_X2_30 (c_X2_put l G rg _ _ _ _ _ (by assumption)) ⟨Nat.le_of_ble_eq_true rfl, Nat.le_of_ble_eq_true rfl⟩ (by assumption) rfl rfl (Nat.le_of_ble_eq_true rfl) ⟨Nat.zero_le _, Nat.zero_le _⟩ dX2_product_23 (fun r_23 I_23 L_23 p_23 => ?_)
  exact j_zret C hr (by rcases p_23 with ⟨-, ⟨z, -, rfl, -⟩ | ⟨-, rfl, -⟩⟩ <;> rfl) dX2_product_26 (by simp only [dec_mul, dec_addOO, dec_subOO] at p_23; exact p_23)

set_option maxHeartbeats 4000000 in
set_option maxRecDepth 20000 in
theorem c_X2_quotient (l : Launch) (G : GT) (rg : RgT) (I : II) (L : LL) (o a b : Nat) (ho : isF rg o) (ha : isF rg a) (hb : isF rg b) : CtI l yX2_quotient cX2_quotient 3 (some FieldType.boolean) 3 G rg I L [.ref (gB G + o), .ref (gB G + a), .ref (gB G + b)] (Put I L o (fDiv (fr L a) (fr L b))) := by
  refine ctI_of [some (.ref (gB G + o)), some (.ref (gB G + a)), some (.ref (gB G + b))] rfl (Nat.le_of_ble_eq_true rfl) (by decide) ?_
  intro p e s m args below meth c C hr
  refine j_aload_n C dX2_quotient_0 rfl rfl ?_
  refine j_aload_n C dX2_quotient_1 rfl rfl ?_
  refine g_getL C (by assumption) fl_X2_9 (by rfl) dX2_quotient_2 ?_
  refine j_aload_n C dX2_quotient_5 rfl rfl ?_
  refine g_getL C (by assumption) fl_X2_15 (by rfl) dX2_quotient_6 ?_
  refine j_csL C sc_X2_24 (c_X2_times l G rg _ _ _ _) ⟨Nat.le_of_ble_eq_true rfl, Nat.le_of_ble_eq_true rfl⟩ rfl rfl (Nat.le_of_ble_eq_true rfl) ⟨Nat.zero_le _, Nat.zero_le _⟩ dX2_quotient_9 (fun r_9 I_9 L_9 p_9 => ?_)
  obtain ⟨rfl, rfl, rfl⟩ := p_9
  refine j_aload_n C dX2_quotient_12 rfl rfl ?_
  refine g_getL C (by assumption) fl_X2_15 (by rfl) dX2_quotient_13 ?_
  refine j_aload_n C dX2_quotient_16 rfl rfl ?_
  refine g_getL C (by assumption) fl_X2_9 (by rfl) dX2_quotient_17 ?_
  refine j_csL C sc_X2_24 (c_X2_times l G rg _ _ _ _) ⟨Nat.le_of_ble_eq_true rfl, Nat.le_of_ble_eq_true rfl⟩ rfl rfl (Nat.le_of_ble_eq_true rfl) ⟨Nat.zero_le _, Nat.zero_le _⟩ dX2_quotient_20 (fun r_20 I_20 L_20 p_20 => ?_)
  obtain ⟨rfl, rfl, rfl⟩ := p_20
  refine g_cvI C vc_X2_30 (c_X2_put l G rg _ _ _ _ _ (by assumption)) ⟨Nat.le_of_ble_eq_true rfl, Nat.le_of_ble_eq_true rfl⟩ (by assumption) rfl rfl (Nat.le_of_ble_eq_true rfl) ⟨Nat.zero_le _, Nat.zero_le _⟩ dX2_quotient_23 (fun r_23 I_23 L_23 p_23 => ?_)
  exact j_zret C hr (by rcases p_23 with ⟨-, ⟨z, -, rfl, -⟩ | ⟨-, rfl, -⟩⟩ <;> rfl) dX2_quotient_26 (by simp only [dec_mul, dec_addOO, dec_subOO] at p_23; exact p_23)

set_option maxHeartbeats 4000000 in
set_option maxRecDepth 20000 in
theorem c_compare (l : Launch) (G : GT) (rg : RgT) (I : II) (L : LL) (x y : Int64)  : CtI l yJ13_compare_74951 cJ13_compare_74951 4 (some FieldType.int) 1 G rg I L [.long x, .long y] (fun r I1 L1 => r = lg_cmp x y ∧ I = I1 ∧ L = L1) := by
  refine ctI_of [some (.long x), none, some (.long y), none] rfl (Nat.le_of_ble_eq_true rfl) (by decide) ?_
  intro p e s m args below meth c C hr
  refine j_lload_n C dJ13_compare_74951_0 rfl rfl ?_
  refine j_lload_n C dJ13_compare_74951_1 rfl rfl ?_
  refine j_lc_ge (tgt := 10) C dJ13_compare_74951_2 dJ13_compare_74951_3 (by decide) (fun h_3 => ?_) (fun h_3 => ?_)
  · refine j_lload_n C dJ13_compare_74951_10 rfl rfl ?_
    refine j_lload_n C dJ13_compare_74951_11 rfl rfl ?_
    refine j_lc_ne (tgt := 20) C dJ13_compare_74951_12 dJ13_compare_74951_13 (by decide) (fun h_13 => ?_) (fun h_13 => ?_)
    · refine j_iconst (v := nI 1) C dJ13_compare_74951_20 (by decide) ?_
      exact j_iret C hr dJ13_compare_74951_21 (by refine ⟨?_, rfl, rfl⟩; simp only [lg_cmp, gt_iff_lt]; first | (rw [if_neg (fun q => h_3 (Int64.le_of_lt q)), if_neg (fun q => h_3 (by rw [q]; exact Int64.le_refl _))]; try rfl) | (rw [if_neg (by intro q; rw [h_13] at q; exact absurd q (Int64.lt_irrefl)), if_pos h_13]; try rfl) | (rw [if_pos (Int64.lt_of_le_of_ne h_3 (fun q => h_13 q.symm))]; try rfl))
    · refine j_iconst (v := nI 0) C dJ13_compare_74951_16 (by decide) ?_
      refine j_goto (tgt := 21) C dJ13_compare_74951_17 (by decide) ?_
      exact j_iret C hr dJ13_compare_74951_21 (by refine ⟨?_, rfl, rfl⟩; simp only [lg_cmp, gt_iff_lt]; first | (rw [if_neg (fun q => h_3 (Int64.le_of_lt q)), if_neg (fun q => h_3 (by rw [q]; exact Int64.le_refl _))]; try rfl) | (rw [if_neg (by intro q; rw [h_13] at q; exact absurd q (Int64.lt_irrefl)), if_pos h_13]; try rfl) | (rw [if_pos (Int64.lt_of_le_of_ne h_3 (fun q => h_13 q.symm))]; try rfl))
  · refine j_iconst (v := (-1)) C dJ13_compare_74951_6 (by decide) ?_
    refine j_goto (tgt := 21) C dJ13_compare_74951_7 (by decide) ?_
    exact j_iret C hr dJ13_compare_74951_21 (by refine ⟨?_, rfl, rfl⟩; simp only [lg_cmp, gt_iff_lt]; first | (rw [if_neg (fun q => h_3 (Int64.le_of_lt q)), if_neg (fun q => h_3 (by rw [q]; exact Int64.le_refl _))]; try rfl) | (rw [if_neg (by intro q; rw [h_13] at q; exact absurd q (Int64.lt_irrefl)), if_pos h_13]; try rfl) | (rw [if_pos (Int64.lt_of_le_of_ne h_3 (fun q => h_13 q.symm))]; try rfl))

set_option maxHeartbeats 4000000 in
set_option maxRecDepth 20000 in
theorem c_X2_sign (l : Launch) (G : GT) (rg : RgT) (I : II) (L : LL) (o : Nat) (ho : isF rg o) : CtI l yX2_sign cX2_sign 1 (some FieldType.int) 2 G rg I L [.ref (gB G + o)] (fun r I1 L1 => r = lg_cmp (L o 0) 0 ∧ I = I1 ∧ L = L1) := by
  refine ctI_of [some (.ref (gB G + o))] rfl (Nat.le_of_ble_eq_true rfl) (by decide) ?_
  intro p e s m args below meth c C hr
  refine j_aload_n C dX2_sign_0 rfl rfl ?_
  refine g_getL C (by assumption) fl_X2_9 (by rfl) dX2_sign_1 ?_
  refine j_lconst (v := 0) C dX2_sign_4 (by decide) ?_
  refine j_csI C sc_X2_37 (c_compare l G rg _ _ _ _) ⟨Nat.le_of_ble_eq_true rfl, Nat.le_of_ble_eq_true rfl⟩ rfl rfl (Nat.le_of_ble_eq_true rfl) ⟨Nat.zero_le _, Nat.zero_le _⟩ dX2_sign_5 (fun r_5 I_5 L_5 p_5 => ?_)
  obtain ⟨rfl, rfl, rfl⟩ := p_5
  exact j_iret C hr dX2_sign_8 (⟨rfl, rfl, rfl⟩)

set_option maxHeartbeats 4000000 in
set_option maxRecDepth 20000 in
theorem c_X2_isSame (l : Launch) (G : GT) (rg : RgT) (I : II) (L : LL) (o a : Nat) (ho : isF rg o) (ha : isF rg a) : CtI l yX2_isSame cX2_isSame 2 (some FieldType.boolean) 1 G rg I L [.ref (gB G + o), .ref (gB G + a)] (fun r I1 L1 => r = b2i (decide (fr L o = fr L a)) ∧ I = I1 ∧ L = L1) := by
  refine ctI_of [some (.ref (gB G + o)), some (.ref (gB G + a))] rfl (Nat.le_of_ble_eq_true rfl) (by decide) ?_
  intro p e s m args below meth c C hr
  refine j_aload_n C dX2_isSame_0 rfl rfl ?_
  refine g_getL C (by assumption) fl_X2_9 (by rfl) dX2_isSame_1 ?_
  refine j_aload_n C dX2_isSame_4 rfl rfl ?_
  refine g_getL C (by assumption) fl_X2_9 (by rfl) dX2_isSame_5 ?_
  refine j_lc_ne (tgt := 28) C dX2_isSame_8 dX2_isSame_9 (by decide) (fun h_9 => ?_) (fun h_9 => ?_)
  · refine j_iconst (v := nI 0) C dX2_isSame_28 (by decide) ?_
    exact j_zret C hr (by first | rfl | exact b2i_n _ rfl) dX2_isSame_29 (by refine ⟨?_, rfl, rfl⟩; first | (rw [decide_eq_true (by unfold fr; rw [h_9, h_21])]; try rfl) | (rw [decide_eq_false (fun q => h_21 (congrArg Prod.snd q))]; try rfl) | (rw [decide_eq_false (fun q => h_9 (congrArg Prod.fst q))]; rfl))
  · refine j_aload_n C dX2_isSame_12 rfl rfl ?_
    refine g_getL C (by assumption) fl_X2_15 (by rfl) dX2_isSame_13 ?_
    refine j_aload_n C dX2_isSame_16 rfl rfl ?_
    refine g_getL C (by assumption) fl_X2_15 (by rfl) dX2_isSame_17 ?_
    refine j_lc_ne (tgt := 28) C dX2_isSame_20 dX2_isSame_21 (by decide) (fun h_21 => ?_) (fun h_21 => ?_)
    · refine j_iconst (v := nI 0) C dX2_isSame_28 (by decide) ?_
      exact j_zret C hr (by first | rfl | exact b2i_n _ rfl) dX2_isSame_29 (by refine ⟨?_, rfl, rfl⟩; first | (rw [decide_eq_true (by unfold fr; rw [h_9, h_21])]; try rfl) | (rw [decide_eq_false (fun q => h_21 (congrArg Prod.snd q))]; try rfl) | (rw [decide_eq_false (fun q => h_9 (congrArg Prod.fst q))]; rfl))
    · refine j_iconst (v := nI 1) C dX2_isSame_24 (by decide) ?_
      refine j_goto (tgt := 29) C dX2_isSame_25 (by decide) ?_
      exact j_zret C hr (by first | rfl | exact b2i_n _ rfl) dX2_isSame_29 (by refine ⟨?_, rfl, rfl⟩; first | (rw [decide_eq_true (by unfold fr; rw [h_9, h_21])]; try rfl) | (rw [decide_eq_false (fun q => h_21 (congrArg Prod.snd q))]; try rfl) | (rw [decide_eq_false (fun q => h_9 (congrArg Prod.fst q))]; rfl))

set_option maxHeartbeats 4000000 in
set_option maxRecDepth 20000 in
theorem c_X2_part (l : Launch) (G : GT) (rg : RgT) (I : II) (L : LL) (o : Nat) (k : Int32) (ho : isF rg o) : CtL l yX2_part cX2_part 2 (some FieldType.long) 1 G rg I L [.ref (gB G + o), .int k] (fun r I1 L1 => r = (if k = 0 then L o 0 else L o 1) ∧ I = I1 ∧ L = L1) := by
  refine ctL_of [some (.ref (gB G + o)), some (.int k)] rfl (Nat.le_of_ble_eq_true rfl) (by decide) ?_
  intro p e s m args below meth c C hr
  refine j_iload_n C dX2_part_0 rfl rfl ?_
  first | refine n_if_ne (tgt := 11) C dX2_part_1 (by decide) (fun h_1 => ?_) (fun h_1 => ?_) | refine j_if_ne (tgt := 11) C dX2_part_1 (by decide) (fun h_1 => ?_) (fun h_1 => ?_)
  · refine j_aload_n C dX2_part_11 rfl rfl ?_
    refine g_getL C (by assumption) fl_X2_15 (by rfl) dX2_part_12 ?_
    exact j_lret C hr dX2_part_15 (⟨by simp [h_1], rfl, rfl⟩)
  · refine j_aload_n C dX2_part_4 rfl rfl ?_
    refine g_getL C (by assumption) fl_X2_9 (by rfl) dX2_part_5 ?_
    refine j_goto (tgt := 15) C dX2_part_8 (by decide) ?_
    exact j_lret C hr dX2_part_15 (⟨by simp [h_1], rfl, rfl⟩)
end
section
theorem j_mmin {p : Program} {l : Launch} {e : Env} {R : Room} {s : State} {m : MethodId} {args : Array Value} {below : List Frame} {meth : Method} {c : Code} {Q : State → Prop} {cc : ByteArray} {nL : Nat} {own : String} {G : GT} {rg : RgT} {kc ks : Nat} {I : II} {L : LL} {pc : Nat} {lv : LV} {st : List Value} (C : Cx p s m args meth c cc nL own G) {idx : Nat} {x y : Int32} (hl : Cond.methodLink own idx Lib.Math.min.name ∈ tblG) (h1 : Cond.static Lib.Math.min.name ∈ tblG) (h2 : Cond.initialized "java/lang/Math" ∈ tblG) (h3 : Cond.code Lib.Math.min.name Lib.Math.min.code 2 (some .int) ∈ tblG) (hf : 1 ≤ R.frames) (hW : (st.map fun v => v.category).sum + 13 ≤ R.locals) (hc : kc ≤ R.cells) (hs : ks ≤ R.slots) (d : decode cc pc = .ok (.invokestatic idx, 3)) (k : J p l e R s m args below meth c Q nL G rg kc ks I L (pc + 3) lv (.int (if y < x then y else x) :: st)) : J p l e R s m args below meth c Q nL G rg kc ks I L pc lv (.int y :: .int x :: st) := fun H locs ls hP hS hl2 => va_mmin C.1 C.2.1 (C.2.2.1.trans hl2.1.symm) C.2.2.2.1 (C.2.2.2.2.1 _ hl) (C.2.2.2.2.1 _ h1) (C.2.2.2.2.1 _ h2) (C.2.2.2.2.1 _ h3) hf hW hc hs d (k H locs ls hP hS hl2)
theorem n_mmin {p : Program} {l : Launch} {e : Env} {R : Room} {s : State} {m : MethodId} {args : Array Value} {below : List Frame} {meth : Method} {c : Code} {Q : State → Prop} {cc : ByteArray} {nL : Nat} {own : String} {G : GT} {rg : RgT} {kc ks : Nat} {I : II} {L : LL} {pc : Nat} {lv : LV} {st : List Value} (C : Cx p s m args meth c cc nL own G) {idx : Nat} {a b : Nat} (ha : a < 2 ^ 31) (hb : b < 2 ^ 31) (hl : Cond.methodLink own idx Lib.Math.min.name ∈ tblG) (h1 : Cond.static Lib.Math.min.name ∈ tblG) (h2 : Cond.initialized "java/lang/Math" ∈ tblG) (h3 : Cond.code Lib.Math.min.name Lib.Math.min.code 2 (some .int) ∈ tblG) (hf : 1 ≤ R.frames) (hW : (st.map fun v => v.category).sum + 13 ≤ R.locals) (hc : kc ≤ R.cells) (hs : ks ≤ R.slots) (d : decode cc pc = .ok (.invokestatic idx, 3)) (k : J p l e R s m args below meth c Q nL G rg kc ks I L (pc + 3) lv (.int (nI (min a b)) :: st)) : J p l e R s m args below meth c Q nL G rg kc ks I L pc lv (.int (nI b) :: .int (nI a) :: st) := by
  refine j_mmin C hl h1 h2 h3 hf hW hc hs d ?_
  have e : (if nI b < nI a then nI b else nI a) = nI (min a b) := by
    split
    · next h => have := (nI_ltI (by assumption) (by assumption)).mp h; congr 1; omega
    · next h => have : ¬ (b < a) := fun q => h ((nI_ltI (by assumption) (by assumption)).mpr q); congr 1; omega
  rw [e]
  exact k
theorem wm_min_1 : Cond.static Lib.Math.min.name ∈ tblG := mt 254 (by decide +kernel) rfl
theorem wm_min_3 : Cond.code Lib.Math.min.name Lib.Math.min.code 2 (some .int) ∈ tblG := mt 255 (by decide +kernel) rfl
theorem wm_min_0 : Cond.methodLink RX1 21 Lib.Math.min.name ∈ tblG := mt 253 (by decide +kernel) rfl
theorem j_mmax {p : Program} {l : Launch} {e : Env} {R : Room} {s : State} {m : MethodId} {args : Array Value} {below : List Frame} {meth : Method} {c : Code} {Q : State → Prop} {cc : ByteArray} {nL : Nat} {own : String} {G : GT} {rg : RgT} {kc ks : Nat} {I : II} {L : LL} {pc : Nat} {lv : LV} {st : List Value} (C : Cx p s m args meth c cc nL own G) {idx : Nat} {x y : Int32} (hl : Cond.methodLink own idx Lib.Math.max.name ∈ tblG) (h1 : Cond.static Lib.Math.max.name ∈ tblG) (h2 : Cond.initialized "java/lang/Math" ∈ tblG) (h3 : Cond.code Lib.Math.max.name Lib.Math.max.code 2 (some .int) ∈ tblG) (hf : 1 ≤ R.frames) (hW : (st.map fun v => v.category).sum + 13 ≤ R.locals) (hc : kc ≤ R.cells) (hs : ks ≤ R.slots) (d : decode cc pc = .ok (.invokestatic idx, 3)) (k : J p l e R s m args below meth c Q nL G rg kc ks I L (pc + 3) lv (.int (if x < y then y else x) :: st)) : J p l e R s m args below meth c Q nL G rg kc ks I L pc lv (.int y :: .int x :: st) := fun H locs ls hP hS hl2 => va_mmax C.1 C.2.1 (C.2.2.1.trans hl2.1.symm) C.2.2.2.1 (C.2.2.2.2.1 _ hl) (C.2.2.2.2.1 _ h1) (C.2.2.2.2.1 _ h2) (C.2.2.2.2.1 _ h3) hf hW hc hs d (k H locs ls hP hS hl2)
theorem n_mmax {p : Program} {l : Launch} {e : Env} {R : Room} {s : State} {m : MethodId} {args : Array Value} {below : List Frame} {meth : Method} {c : Code} {Q : State → Prop} {cc : ByteArray} {nL : Nat} {own : String} {G : GT} {rg : RgT} {kc ks : Nat} {I : II} {L : LL} {pc : Nat} {lv : LV} {st : List Value} (C : Cx p s m args meth c cc nL own G) {idx : Nat} {a b : Nat} (ha : a < 2 ^ 31) (hb : b < 2 ^ 31) (hl : Cond.methodLink own idx Lib.Math.max.name ∈ tblG) (h1 : Cond.static Lib.Math.max.name ∈ tblG) (h2 : Cond.initialized "java/lang/Math" ∈ tblG) (h3 : Cond.code Lib.Math.max.name Lib.Math.max.code 2 (some .int) ∈ tblG) (hf : 1 ≤ R.frames) (hW : (st.map fun v => v.category).sum + 13 ≤ R.locals) (hc : kc ≤ R.cells) (hs : ks ≤ R.slots) (d : decode cc pc = .ok (.invokestatic idx, 3)) (k : J p l e R s m args below meth c Q nL G rg kc ks I L (pc + 3) lv (.int (nI (max a b)) :: st)) : J p l e R s m args below meth c Q nL G rg kc ks I L pc lv (.int (nI b) :: .int (nI a) :: st) := by
  refine j_mmax C hl h1 h2 h3 hf hW hc hs d ?_
  have e : (if nI a < nI b then nI b else nI a) = nI (max a b) := by
    split
    · next h => have := (nI_ltI (by assumption) (by assumption)).mp h; congr 1; omega
    · next h => have : ¬ (a < b) := fun q => h ((nI_ltI (by assumption) (by assumption)).mpr q); congr 1; omega
  rw [e]
  exact k
theorem wm_max_1 : Cond.static Lib.Math.max.name ∈ tblG := mt 257 (by decide +kernel) rfl
theorem wm_max_3 : Cond.code Lib.Math.max.name Lib.Math.max.code 2 (some .int) ∈ tblG := mt 258 (by decide +kernel) rfl
theorem wm_max_0 : Cond.methodLink RX1 27 Lib.Math.max.name ∈ tblG := mt 256 (by decide +kernel) rfl
theorem wm_ini : Cond.initialized "java/lang/Math" ∈ tblG := mt 10 (by decide +kernel) rfl
theorem fill_s {I : II} {o i : Nat} {v : Int32} : up2 (va_up I o (fun j => if j < i then v else I o j)) o i v = va_up I o (fun j => if j < i + 1 then v else I o j) := by
  funext q j
  rw [up2_at]
  unfold va_up
  by_cases h : q = o
  · subst h
    simp only [if_true]
    by_cases h1 : j = i
    · simp [h1]
    · simp [h1, show j < i + 1 ↔ j < i by omega]
  · simp [h]
theorem fill_0 {I : II} {o : Nat} {v : Int32} : I = va_up I o (fun j => if j < 0 then v else I o j) := by
  funext q j
  unfold va_up
  by_cases h : q = o
  · subst h; simp
  · simp [h]
set_option maxHeartbeats 4000000 in
set_option maxRecDepth 20000 in
theorem c_fill (l : Launch) (G : GT) (rg : RgT) (I : II) (L : LL) (o n : Nat) (v : Int32) (ha : Ar rg o 0 n) (hn : n < 2 ^ 30) : CtV l yJ7_fill_53178 cJ7_fill_53178 4 none 1 G rg I L [.ref (gB G + o), .int v] (fun I1 L1 => va_up I o (fun j => if j < n then v else I o j) = I1 ∧ L = L1) := by
  refine ctV_of [some (.ref (gB G + o)), some (.int v), none, none] rfl (Nat.le_of_ble_eq_true rfl) (by decide) ?_
  intro p e s m args below meth c C hr
  have lp : ∀ (fuel : Nat) (i : Nat), n < fuel + i → i ≤ n → J p l e (rmD 1) s m args below meth c (MQ below (QV G rg (fun I1 L1 => va_up I o (fun j => if j < n then v else I o j) = I1 ∧ L = L1)) args s 0 0 (rg_A G rg)) 4 G rg 0 0 (va_up I o (fun j => if j < i then v else I o j)) L 5 [some (.ref (gB G + o)), some (.int v), some (.int (nI i)), some (.int (nI n))] [] := by
    intro fuel
    induction fuel with
    | zero => intro i h1 h2; exfalso; omega
    | succ fuel ih_lp =>
      intro i h1 h2
      refine j_iload_n C dJ7_fill_53178_5 rfl rfl ?_
      refine j_iload_n C dJ7_fill_53178_6 rfl rfl ?_
      first | refine n_icmp_ge (tgt := 20) C (by omega) (by omega) dJ7_fill_53178_7 (by decide) (fun h_7 => ?_) (fun h_7 => ?_) | refine j_icmp_ge (tgt := 20) C dJ7_fill_53178_7 (by decide) (fun h_7 => ?_) (fun h_7 => ?_)
      · exact j_vret C hr dJ7_fill_53178_20 (⟨by rw [show i = n by omega], rfl⟩)
      · refine j_aload_n C dJ7_fill_53178_10 rfl rfl ?_
        refine j_iload_n C dJ7_fill_53178_11 rfl rfl ?_
        refine j_iload_n C dJ7_fill_53178_12 rfl rfl ?_
        refine g_iast C ha (by omega) (by omega) dJ7_fill_53178_13 ?_
        first | refine n_iinc (n := 1) C dJ7_fill_53178_14 rfl (by decide) ?_ | refine j_iinc C dJ7_fill_53178_14 rfl rfl (by decide) ?_
        refine j_goto (tgt := 5) C dJ7_fill_53178_17 (by decide) ?_
        rw [show up2 (va_up I o (fun j => if j < i then v else I o j)) o i v = va_up I o (fun j => if j < i + 1 then v else I o j) from fill_s]
        exact ih_lp (i + 1) (by omega) (by omega)
  refine j_iconst (v := nI 0) C dJ7_fill_53178_0 (by decide) ?_
  refine j_istore_n C dJ7_fill_53178_1 rfl (by decide) ?_
  refine j_aload_n C dJ7_fill_53178_2 rfl rfl ?_
  refine g_alen C (by assumption) (by decide) dJ7_fill_53178_3 ?_
  refine j_istore_n C dJ7_fill_53178_4 rfl (by decide) ?_
  refine t_IL (fill_0 (o := o) (v := v)) rfl ?_
  exact lp (n + 1) 0 (by omega) (by omega)

set_option maxHeartbeats 4000000 in
set_option maxRecDepth 20000 in
theorem c_X1_number (l : Launch) (G : GT) (rg : RgT) (I : II) (L : LL) (o i j : Nat) (hf : isFm rg o) (hi : i < 5) (hj : j < 5) : CtI l yX1_number cX1_number 3 (some FieldType.int) 2 G rg I L [.ref (gB G + o), .int (nI i), .int (nI j)] (fun r I1 L1 => r = I (o + 1) (ix i j) ∧ I = I1 ∧ L = L1) := by
  refine ctI_of [some (.ref (gB G + o)), some (.int (nI i)), some (.int (nI j))] rfl (Nat.le_of_ble_eq_true rfl) (by decide) ?_
  intro p e s m args below meth c C hr
  obtain ⟨hf1, hf2⟩ := hf
  refine j_aload_n C dX1_number_0 rfl rfl ?_
  refine g_getR C (by assumption) fl_X1_9 (by rfl) dX1_number_1 ?_
  refine j_iload_n C dX1_number_4 rfl rfl ?_
  refine j_iload_n C dX1_number_5 rfl rfl ?_
  refine n_mmin C (by omega) (by omega) wm_min_0 wm_min_1 wm_ini wm_min_3 (by decide) (Nat.le_of_ble_eq_true rfl) (Nat.zero_le _) (Nat.zero_le _) dX1_number_6 ?_
  refine j_iconst (v := nI 5) C dX1_number_9 (by decide) ?_
  first | refine n_imul C dX1_number_10 ?_ | refine j_imul C dX1_number_10 ?_
  refine j_iload_n C dX1_number_11 rfl rfl ?_
  refine j_iload_n C dX1_number_12 rfl rfl ?_
  refine n_mmax C (by omega) (by omega) wm_max_0 wm_max_1 wm_ini wm_max_3 (by decide) (Nat.le_of_ble_eq_true rfl) (Nat.zero_le _) (Nat.zero_le _) dX1_number_13 ?_
  first | refine n_iadd C dX1_number_16 ?_ | refine j_iadd C dX1_number_16 ?_
  refine g_iald C (by assumption) (by omega) (by decide) dX1_number_17 ?_
  exact j_iret C hr dX1_number_18 (⟨rfl, rfl, rfl⟩)

set_option maxHeartbeats 4000000 in
set_option maxRecDepth 20000 in
theorem c_X1_replace (l : Launch) (G : GT) (rg : RgT) (I : II) (L : LL) (o i j : Nat) (v : Int32) (hf : isFm rg o) (hi : i < 5) (hj : j < 5) : CtI l yX1_replace cX1_replace 5 (some FieldType.int) 3 G rg I L [.ref (gB G + o), .int (nI i), .int (nI j), .int v] (fun r I1 L1 => r = I (o + 1) (ix i j) ∧ up2 I (o + 1) (ix i j) v = I1 ∧ L = L1) := by
  refine ctI_of [some (.ref (gB G + o)), some (.int (nI i)), some (.int (nI j)), some (.int v), none] rfl (Nat.le_of_ble_eq_true rfl) (by decide) ?_
  intro p e s m args below meth c C hr
  obtain ⟨hf1, hf2⟩ := id hf
  refine j_aload_n C dX1_replace_0 rfl rfl ?_
  refine j_iload_n C dX1_replace_1 rfl rfl ?_
  refine j_iload_n C dX1_replace_2 rfl rfl ?_
  refine g_cvI C vc_X1_30 (c_X1_number l G rg _ _ _ _ _ (by assumption) (by omega) (by omega)) ⟨Nat.le_of_ble_eq_true rfl, Nat.le_of_ble_eq_true rfl⟩ (by assumption) rfl rfl (Nat.le_of_ble_eq_true rfl) ⟨Nat.zero_le _, Nat.zero_le _⟩ dX1_replace_3 (fun r_3 I_3 L_3 p_3 => ?_)
  obtain ⟨rfl, rfl, rfl⟩ := p_3
  refine j_istore C dX1_replace_6 (by decide) ?_
  refine j_aload_n C dX1_replace_8 rfl rfl ?_
  refine g_getR C (by assumption) fl_X1_9 (by rfl) dX1_replace_9 ?_
  refine j_iload_n C dX1_replace_12 rfl rfl ?_
  refine j_iload_n C dX1_replace_13 rfl rfl ?_
  refine n_mmin C (by omega) (by omega) wm_min_0 wm_min_1 wm_ini wm_min_3 (by decide) (Nat.le_of_ble_eq_true rfl) (Nat.zero_le _) (Nat.zero_le _) dX1_replace_14 ?_
  refine j_iconst (v := nI 5) C dX1_replace_17 (by decide) ?_
  first | refine n_imul C dX1_replace_18 ?_ | refine j_imul C dX1_replace_18 ?_
  refine j_iload_n C dX1_replace_19 rfl rfl ?_
  refine j_iload_n C dX1_replace_20 rfl rfl ?_
  refine n_mmax C (by omega) (by omega) wm_max_0 wm_max_1 wm_ini wm_max_3 (by decide) (Nat.le_of_ble_eq_true rfl) (Nat.zero_le _) (Nat.zero_le _) dX1_replace_21 ?_
  first | refine n_iadd C dX1_replace_24 ?_ | refine j_iadd C dX1_replace_24 ?_
  refine j_iload_n C dX1_replace_25 rfl rfl ?_
  refine g_iast C (by assumption) (by omega) (by decide) dX1_replace_26 ?_
  refine j_iload C dX1_replace_27 rfl ?_
  exact j_iret C hr dX1_replace_29 (⟨rfl, rfl, rfl⟩)

set_option maxHeartbeats 4000000 in
set_option maxRecDepth 20000 in
theorem c_X1_clear (l : Launch) (G : GT) (rg : RgT) (I : II) (L : LL) (o : Nat) (hf : isFm rg o) : CtV l yX1_clear cX1_clear 1 none 2 G rg I L [.ref (gB G + o)] (fun I1 L1 => va_up I (o + 1) (fun j => if j < 25 then 0 else I (o + 1) j) = I1 ∧ L = L1) := by
  refine ctV_of [some (.ref (gB G + o))] rfl (Nat.le_of_ble_eq_true rfl) (by decide) ?_
  intro p e s m args below meth c C hr
  obtain ⟨hf1, hf2⟩ := id hf
  refine j_aload_n C dX1_clear_0 rfl rfl ?_
  refine g_getR C (by assumption) fl_X1_9 (by rfl) dX1_clear_1 ?_
  refine j_iconst (v := (0)) C dX1_clear_4 (by decide) ?_
  refine j_csV C sc_X1_15 (c_fill l G rg _ _ _ _ _ (by assumption) (by decide)) ⟨Nat.le_of_ble_eq_true rfl, Nat.le_of_ble_eq_true rfl⟩ rfl rfl (Nat.le_of_ble_eq_true rfl) ⟨Nat.zero_le _, Nat.zero_le _⟩ dX1_clear_5 (fun I_5 L_5 p_5 => ?_)
  obtain ⟨rfl, rfl⟩ := p_5
  exact j_vret C hr dX1_clear_8 (⟨rfl, rfl⟩)

set_option maxHeartbeats 4000000 in
set_option maxRecDepth 20000 in
theorem c_X3_at (l : Launch) (G : GT) (rg : RgT) (I : II) (L : LL) (o i j : Nat) (hm : isMx rg o) (hi : i < 5) (hj : j < 5) : CtR l yX3_at cX3_at 3 (some (FieldType.object "SquareSums$Fraction")) 1 G rg I L [.ref (gB G + o), .int (nI i), .int (nI j)] (fun r I1 L1 => r = o + 2 + (i * 5 + j) ∧ I = I1 ∧ L = L1) := by
  refine ctR_of [some (.ref (gB G + o)), some (.int (nI i)), some (.int (nI j))] rfl (Nat.le_of_ble_eq_true rfl) (by decide) ?_
  intro p e s m args below meth c C hr
  obtain ⟨hm1, hm2, hm3⟩ := hm
  refine j_aload_n C dX3_at_0 rfl rfl ?_
  refine g_getR C (by assumption) fl_X3_13 (by rfl) dX3_at_1 ?_
  refine j_iload_n C dX3_at_4 rfl rfl ?_
  refine j_iconst (v := nI 5) C dX3_at_5 (by decide) ?_
  first | refine n_imul C dX3_at_6 ?_ | refine j_imul C dX3_at_6 ?_
  refine j_iload_n C dX3_at_7 rfl rfl ?_
  first | refine n_iadd C dX3_at_8 ?_ | refine j_iadd C dX3_at_8 ?_
  refine g_aald3 C (by assumption) (by omega) (by decide) (by rfl) (by omega) dX3_at_9 ?_
  exact j_aret C hr (by first | exact Or.inl ⟨_, rfl⟩ | exact Or.inr ⟨_, rfl⟩) dX3_at_10 (⟨rfl, rfl, rfl⟩)

set_option maxHeartbeats 4000000 in
set_option maxRecDepth 20000 in
theorem c_X3_take (l : Launch) (G : GT) (rg : RgT) (I : II) (L : LL) (o fo n : Nat) (hm : isMx rg o) (hf : isFm rg fo) (hn : n < 5) : CtV l yX3_take cX3_take 5 none 4 G rg I L [.ref (gB G + o), .ref (gB G + fo), .int (nI n)] (fun I1 L1 => I = I1 ∧ Fm (o + 2) (o + 27) L L1 ∧ TK (I (fo + 1)) o n L1 (n + 1) 0) := by
  refine ctV_of [some (.ref (gB G + o)), some (.ref (gB G + fo)), some (.int (nI n)), none, none] rfl (Nat.le_of_ble_eq_true rfl) (by decide) ?_
  intro p e s m args below meth c C hr
  obtain ⟨hm1, hm2, hm3⟩ := id hm
  obtain ⟨hf1, hf2⟩ := id hf
  have lp : ∀ (fuel : Nat) (i : Nat) (L1 : LL), n + 1 < fuel + i → i ≤ n + 1 → Fm (o + 2) (o + 27) L L1 → TK (I (fo + 1)) o n L1 i 0 → J p l e (rmD 4) s m args below meth c (MQ below (QV G rg (fun I1 L1 => I = I1 ∧ Fm (o + 2) (o + 27) L L1 ∧ TK (I (fo + 1)) o n L1 (n + 1) 0)) args s 0 0 (rg_A G rg)) 5 G rg 0 0 I L1 2 [some (.ref (gB G + o)), some (.ref (gB G + fo)), some (.int (nI n)), some (.int (nI i)), none] [] := by
    intro fuel
    induction fuel with
    | zero => intro i L1 h1 h2 hF1 hT; exfalso; omega
    | succ fuel ih_lp =>
      intro i L1 h1 h2 hF1 hT
      refine j_iload_n C dX3_take_2 rfl rfl ?_
      refine j_iload_n C dX3_take_3 rfl rfl ?_
      first | refine n_icmp_gt (tgt := 60) C (by omega) (by omega) dX3_take_4 (by decide) (fun h_4 => ?_) (fun h_4 => ?_) | refine j_icmp_gt (tgt := 60) C dX3_take_4 (by decide) (fun h_4 => ?_) (fun h_4 => ?_)
      · exact j_vret C hr dX3_take_60 (⟨rfl, hF1, fun a b ha hb _ => hT a b ha hb (by omega)⟩)
      · refine j_iconst (v := nI 0) C dX3_take_7 (by decide) ?_
        refine j_istore C dX3_take_8 (by decide) ?_
        have lq : ∀ (fuel : Nat) (j : Nat) (L2 : LL), n + 1 < fuel + j → j ≤ n + 1 → Fm (o + 2) (o + 27) L L2 → TK (I (fo + 1)) o n L2 i j → J p l e (rmD 4) s m args below meth c (MQ below (QV G rg (fun I1 L1 => I = I1 ∧ Fm (o + 2) (o + 27) L L1 ∧ TK (I (fo + 1)) o n L1 (n + 1) 0)) args s 0 0 (rg_A G rg)) 5 G rg 0 0 I L2 10 [some (.ref (gB G + o)), some (.ref (gB G + fo)), some (.int (nI n)), some (.int (nI i)), some (.int (nI j))] [] := by
          intro fuel
          induction fuel with
          | zero => intro j L2 q1 q2 hF2 hT2; exfalso; omega
          | succ fuel ih_lq =>
            intro j L2 q1 q2 hF2 hT2
            refine j_iload C dX3_take_10 rfl ?_
            refine j_iload_n C dX3_take_12 rfl rfl ?_
            first | refine n_icmp_gt (tgt := 54) C (by omega) (by omega) dX3_take_13 (by decide) (fun h_13 => ?_) (fun h_13 => ?_) | refine j_icmp_gt (tgt := 54) C dX3_take_13 (by decide) (fun h_13 => ?_) (fun h_13 => ?_)
            · first | refine n_iinc (n := 1) C dX3_take_54 rfl (by decide) ?_ | refine j_iinc C dX3_take_54 rfl rfl (by decide) ?_
              refine j_goto (tgt := 2) C dX3_take_57 (by decide) ?_
              refine j_rm 4 ?_
              exact ih_lp (i + 1) L2 (by omega) (by omega) hF2 (TK_n hT2 (by omega))
            · refine j_aload_n C dX3_take_16 rfl rfl ?_
              refine j_iload_n C dX3_take_17 rfl rfl ?_
              refine j_iload C dX3_take_18 rfl ?_
              refine g_cvR C vc_X3_26 (c_X3_at l G rg _ _ _ _ _ (by assumption) (by omega) (by omega)) ⟨Nat.le_of_ble_eq_true rfl, Nat.le_of_ble_eq_true rfl⟩ (hm1) rfl rfl (Nat.le_of_ble_eq_true rfl) ⟨Nat.zero_le _, Nat.zero_le _⟩ dX3_take_20 (fun r_20 I_20 L_20 p_20 => ?_)
              obtain ⟨rfl, rfl, rfl⟩ := p_20
              refine j_aload_n C dX3_take_23 rfl rfl ?_
              refine j_iload_n C dX3_take_24 rfl rfl ?_
              refine j_iload C dX3_take_25 rfl ?_
              refine g_cvI C vc_X3_30 (c_X1_number l G rg _ _ _ _ _ (by assumption) (by omega) (by omega)) ⟨Nat.le_of_ble_eq_true rfl, Nat.le_of_ble_eq_true rfl⟩ (hf1) rfl rfl (Nat.le_of_ble_eq_true rfl) ⟨Nat.zero_le _, Nat.zero_le _⟩ dX3_take_27 (fun r_27 I_27 L_27 p_27 => ?_)
              obtain ⟨rfl, rfl, rfl⟩ := p_27
              refine j_i2l C dX3_take_30 ?_
              refine j_iload_n C dX3_take_31 rfl rfl ?_
              refine j_iload C dX3_take_32 rfl ?_
              first | refine n_icmp_ne (tgt := 41) C (by omega) (by omega) dX3_take_34 (by decide) (fun h_34 => ?_) (fun h_34 => ?_) | refine j_icmp_ne (tgt := 41) C dX3_take_34 (by decide) (fun h_34 => ?_) (fun h_34 => ?_)
              · refine j_ldc2 C kc_X3_36 dX3_take_41 ?_
                have hF := hm3 (i * 5 + j) (by omega)
                refine g_cvI C vc_X3_38 (c_X2_put l G rg _ _ _ _ _ hF) ⟨Nat.le_of_ble_eq_true rfl, Nat.le_of_ble_eq_true rfl⟩ (hF) rfl rfl (Nat.le_of_ble_eq_true rfl) ⟨Nat.zero_le _, Nat.zero_le _⟩ dX3_take_44 (fun r_44 I_44 L_44 p_44 => ?_)
                obtain ⟨rfl, rfl, rfl⟩ := Put_some p_44 (hv_2 h_34)
                refine j_pop C dX3_take_47 rfl ?_
                first | refine n_iinc (n := 1) C dX3_take_48 rfl (by decide) ?_ | refine j_iinc C dX3_take_48 rfl rfl (by decide) ?_
                refine j_goto (tgt := 10) C dX3_take_51 (by decide) ?_
                exact ih_lq (j + 1) _ (by omega) (by omega) (hF2.set (by omega) (by omega)) (TK_s hT2 hn (by omega))
              · refine j_lconst (v := 1) C dX3_take_37 (by decide) ?_
                refine j_goto (tgt := 44) C dX3_take_38 (by decide) ?_
                have hF := hm3 (i * 5 + j) (by omega)
                refine g_cvI C vc_X3_38 (c_X2_put l G rg _ _ _ _ _ hF) ⟨Nat.le_of_ble_eq_true rfl, Nat.le_of_ble_eq_true rfl⟩ (hF) rfl rfl (Nat.le_of_ble_eq_true rfl) ⟨Nat.zero_le _, Nat.zero_le _⟩ dX3_take_44 (fun r_44 I_44 L_44 p_44 => ?_)
                obtain ⟨rfl, rfl, rfl⟩ := Put_some p_44 (hv_1 h_34)
                refine j_pop C dX3_take_47 rfl ?_
                first | refine n_iinc (n := 1) C dX3_take_48 rfl (by decide) ?_ | refine j_iinc C dX3_take_48 rfl rfl (by decide) ?_
                refine j_goto (tgt := 10) C dX3_take_51 (by decide) ?_
                exact ih_lq (j + 1) _ (by omega) (by omega) (hF2.set (by omega) (by omega)) (TK_s hT2 hn (by omega))
        exact lq (n + 2) 0 L1 (by omega) (by omega) hF1 hT
  refine j_iconst (v := nI 0) C dX3_take_0 (by decide) ?_
  refine j_istore_n C dX3_take_1 rfl (by decide) ?_
  exact lp (n + 2) 0 L (by omega) (by omega) Fm.rf TK_0

set_option maxHeartbeats 4000000 in
set_option maxRecDepth 20000 in
theorem c_X3_copy (l : Launch) (G : GT) (rg : RgT) (I : II) (L : LL) (o a : Nat) (hm : isMx rg o) (hq : isMx rg a) (hd : a + 27 ≤ o + 2 ∨ o + 27 ≤ a + 2) : CtV l yX3_copy cX3_copy 3 none 2 G rg I L [.ref (gB G + o), .ref (gB G + a)] (fun I1 L1 => I = I1 ∧ Fm (o + 2) (o + 27) L L1 ∧ ∀ k, k < 25 → fr L1 (o + 2 + k) = fr L (a + 2 + k)) := by
  refine ctV_of [some (.ref (gB G + o)), some (.ref (gB G + a)), none] rfl (Nat.le_of_ble_eq_true rfl) (by decide) ?_
  intro p e s m args below meth c C hr
  obtain ⟨hm1, hm2, hm3⟩ := id hm
  obtain ⟨hq1, hq2, hq3⟩ := id hq
  have lp : ∀ (fuel : Nat) (i : Nat) (L1 : LL), 25 < fuel + i → i ≤ 25 → Fm (o + 2) (o + 27) L L1 → (∀ k, k < i → fr L1 (o + 2 + k) = fr L (a + 2 + k)) → J p l e (rmD 2) s m args below meth c (MQ below (QV G rg (fun I1 L1 => I = I1 ∧ Fm (o + 2) (o + 27) L L1 ∧ ∀ k, k < 25 → fr L1 (o + 2 + k) = fr L (a + 2 + k))) args s 0 0 (rg_A G rg)) 3 G rg 0 0 I L1 2 [some (.ref (gB G + o)), some (.ref (gB G + a)), some (.int (nI i))] [] := by
    intro fuel
    induction fuel with
    | zero => intro i L1 h1 h2 hF1 hC; exfalso; omega
    | succ fuel ih_lp =>
      intro i L1 h1 h2 hF1 hC
      refine j_iload_n C dX3_copy_2 rfl rfl ?_
      refine j_aload_n C dX3_copy_3 rfl rfl ?_
      refine g_getR C (by assumption) fl_X3_13 (by rfl) dX3_copy_4 ?_
      refine g_alenR C (hm2) (by decide) dX3_copy_7 ?_
      first | refine n_icmp_ge (tgt := 32) C (by omega) (by omega) dX3_copy_8 (by decide) (fun h_8 => ?_) (fun h_8 => ?_) | refine j_icmp_ge (tgt := 32) C dX3_copy_8 (by decide) (fun h_8 => ?_) (fun h_8 => ?_)
      · exact j_vret C hr dX3_copy_32 (⟨rfl, hF1, fun k hk => hC k (by omega)⟩)
      · refine j_aload_n C dX3_copy_11 rfl rfl ?_
        refine g_getR C (by assumption) fl_X3_13 (by rfl) dX3_copy_12 ?_
        refine j_iload_n C dX3_copy_15 rfl rfl ?_
        refine g_aald3 C (hm2) (by omega) (by decide) (by rfl) (by omega) dX3_copy_16 ?_
        refine j_aload_n C dX3_copy_17 rfl rfl ?_
        refine g_getR C (by assumption) fl_X3_13 (by rfl) dX3_copy_18 ?_
        refine j_iload_n C dX3_copy_21 rfl rfl ?_
        refine g_aald3 C (hq2) (by omega) (by decide) (by rfl) (by omega) dX3_copy_22 ?_
        have hA := hm3 i (by omega)
        have hB := hq3 i (by omega)
        refine g_cvV C vc_X3_53 (c_X2_copy l G rg _ _ _ _ hA hB) ⟨Nat.le_of_ble_eq_true rfl, Nat.le_of_ble_eq_true rfl⟩ (hA) rfl rfl (Nat.le_of_ble_eq_true rfl) ⟨Nat.zero_le _, Nat.zero_le _⟩ dX3_copy_23 (fun I_23 L_23 p_23 => ?_)
        obtain ⟨rfl, rfl⟩ := p_23
        first | refine n_iinc (n := 1) C dX3_copy_26 rfl (by decide) ?_ | refine j_iinc C dX3_copy_26 rfl rfl (by decide) ?_
        refine j_goto (tgt := 2) C dX3_copy_29 (by decide) ?_
        refine ih_lp (i + 1) _ (by omega) (by omega) (hF1.set (by omega) (by omega)) (fun k hk => ?_)
        rw [fr_setF]
        split
        · next e => rw [show k = i by omega]; exact hF1.fr (by omega)
        · next e => exact hC k (by omega)
  refine j_iconst (v := nI 0) C dX3_copy_0 (by decide) ?_
  refine j_istore_n C dX3_copy_1 rfl (by decide) ?_
  exact lp 26 0 L (by omega) (by omega) Fm.rf (fun k hk => absurd hk (Nat.not_lt_zero k))

set_option maxHeartbeats 4000000 in
set_option maxRecDepth 20000 in
theorem c_X3_takeLess (l : Launch) (G : GT) (rg : RgT) (I : II) (L : LL) (o g cn mo n : Nat) (hm : isMx rg o) (hg : isFm rg g) (hc : isFm rg cn) (hmo : isF rg mo) (hmd : ¬ (o + 2 ≤ mo ∧ mo < o + 28)) (hn : n < 5) : CtI l yX3_takeLess cX3_takeLess 8 (some FieldType.boolean) 5 G rg I L [.ref (gB G + o), .ref (gB G + g), .ref (gB G + cn), .ref (gB G + mo), .int (nI n)] (fun r I1 L1 => I = I1 ∧ Fm (o + 2) (o + 28) L L1 ∧ ((r = b2i true ∧ TL (I (g + 1)) (I (cn + 1)) (fr L mo) o n L1 (n + 1) (n + 1)) ∨ (r = b2i false ∧ ∃ i j, i ≤ j ∧ j ≤ n ∧ tlO (I (g + 1)) (I (cn + 1)) (fr L mo) i j = none))) := by
  refine ctI_of [some (.ref (gB G + o)), some (.ref (gB G + g)), some (.ref (gB G + cn)), some (.ref (gB G + mo)), some (.int (nI n)), none, none, none] rfl (Nat.le_of_ble_eq_true rfl) (by decide) ?_
  intro p e s m args below meth c C hr
  obtain ⟨hm1, hm2, hm3⟩ := id hm
  have hot : isF rg (o + 27) := hm3 25 (by omega)
  have hg1 := hg.1
  have hc1 := hc.1
  have lp : ∀ (fuel : Nat) (i : Nat) (L1 : LL), n + 1 < fuel + i → i ≤ n + 1 → Fm (o + 2) (o + 28) L L1 → TL (I (g + 1)) (I (cn + 1)) (fr L mo) o n L1 i i → J p l e (rmD 5) s m args below meth c (MQ below (QI G rg (fun r I1 L1 => I = I1 ∧ Fm (o + 2) (o + 28) L L1 ∧ ((r = b2i true ∧ TL (I (g + 1)) (I (cn + 1)) (fr L mo) o n L1 (n + 1) (n + 1)) ∨ (r = b2i false ∧ ∃ i j, i ≤ j ∧ j ≤ n ∧ tlO (I (g + 1)) (I (cn + 1)) (fr L mo) i j = none)))) args s 0 0 (rg_A G rg)) 8 G rg 0 0 I L1 10 [some (.ref (gB G + o)), some (.ref (gB G + g)), some (.ref (gB G + cn)), some (.ref (gB G + mo)), some (.int (nI n)), some (.int (nI i)), none, none] [] := by
    intro fuel
    induction fuel with
    | zero => intro i L1 h1 h2 hF1 hT1; exfalso; omega
    | succ fuel ih_lp =>
      intro i L1 h1 h2 hF1 hT1
      refine j_iload C dX3_takeLess_10 rfl ?_
      refine j_iload C dX3_takeLess_12 rfl ?_
      first | refine n_icmp_gt (tgt := 147) C (by omega) (by omega) dX3_takeLess_14 (by decide) (fun h_14 => ?_) (fun h_14 => ?_) | refine j_icmp_gt (tgt := 147) C dX3_takeLess_14 (by decide) (fun h_14 => ?_) (fun h_14 => ?_)
      · refine j_iconst (v := nI 1) C dX3_takeLess_147 (by decide) ?_
        exact j_zret C hr (by first | rfl | exact b2i_n _ rfl) dX3_takeLess_148 (⟨rfl, hF1, Or.inl ⟨rfl, fun a b ha hb => ⟨fun _ => (hT1 a b ha hb).1 (by unfold prc; omega), fun q => absurd (show prc (n + 1) (n + 1) a b by unfold prc; omega) q⟩⟩⟩)
      · refine j_iload C dX3_takeLess_17 rfl ?_
        refine j_istore C dX3_takeLess_19 (by decide) ?_
        have lq : ∀ (fuel : Nat) (j : Nat) (L1 : LL), n + 1 < fuel + j → j ≤ n + 1 → i ≤ j → Fm (o + 2) (o + 28) L L1 → TL (I (g + 1)) (I (cn + 1)) (fr L mo) o n L1 i j → J p l e (rmD 5) s m args below meth c (MQ below (QI G rg (fun r I1 L1 => I = I1 ∧ Fm (o + 2) (o + 28) L L1 ∧ ((r = b2i true ∧ TL (I (g + 1)) (I (cn + 1)) (fr L mo) o n L1 (n + 1) (n + 1)) ∨ (r = b2i false ∧ ∃ i j, i ≤ j ∧ j ≤ n ∧ tlO (I (g + 1)) (I (cn + 1)) (fr L mo) i j = none)))) args s 0 0 (rg_A G rg)) 8 G rg 0 0 I L1 21 [some (.ref (gB G + o)), some (.ref (gB G + g)), some (.ref (gB G + cn)), some (.ref (gB G + mo)), some (.int (nI n)), some (.int (nI i)), some (.int (nI j)), none] [] := by
          intro fuel
          induction fuel with
          | zero => intro j L1 q1 q2 q3 hF1 hT1; exfalso; omega
          | succ fuel ih_lq =>
            intro j L1 q1 q2 q3 hF1 hT1
            refine j_iload C dX3_takeLess_21 rfl ?_
            refine j_iload C dX3_takeLess_23 rfl ?_
            first | refine n_icmp_gt (tgt := 141) C (by omega) (by omega) dX3_takeLess_25 (by decide) (fun h_25 => ?_) (fun h_25 => ?_) | refine j_icmp_gt (tgt := 141) C dX3_takeLess_25 (by decide) (fun h_25 => ?_) (fun h_25 => ?_)
            · first | refine n_iinc (n := 1) C dX3_takeLess_141 rfl (by decide) ?_ | refine j_iinc C dX3_takeLess_141 rfl rfl (by decide) ?_
              refine j_goto (tgt := 10) C dX3_takeLess_144 (by decide) ?_
              refine j_rm 6 ?_
              exact ih_lp (i + 1) L1 (by omega) (by omega) hF1 (TL_n hT1 (by omega))
            · refine j_aload_n C dX3_takeLess_28 rfl rfl ?_
              refine g_getR C (by assumption) fl_X3_22 (by rfl) dX3_takeLess_29 ?_
              refine j_aload_n C dX3_takeLess_32 rfl rfl ?_
              refine j_iload C dX3_takeLess_33 rfl ?_
              refine j_iload C dX3_takeLess_35 rfl ?_
              refine g_cvI C vc_X3_30 (c_X1_number l G rg _ _ _ _ _ (by assumption) (by omega) (by omega)) ⟨Nat.le_of_ble_eq_true rfl, Nat.le_of_ble_eq_true rfl⟩ (hc1) rfl rfl (Nat.le_of_ble_eq_true rfl) ⟨Nat.zero_le _, Nat.zero_le _⟩ dX3_takeLess_37 (fun r_37 I_37 L_37 p_37 => ?_)
              obtain ⟨rfl, rfl, rfl⟩ := p_37
              refine j_i2l C dX3_takeLess_40 ?_
              refine j_iload C dX3_takeLess_41 rfl ?_
              refine j_iload C dX3_takeLess_43 rfl ?_
              first | refine n_icmp_ne (tgt := 52) C (by omega) (by omega) dX3_takeLess_45 (by decide) (fun h_45 => ?_) (fun h_45 => ?_) | refine j_icmp_ne (tgt := 52) C dX3_takeLess_45 (by decide) (fun h_45 => ?_) (fun h_45 => ?_)
              · refine j_ldc2 C kc_X3_36 dX3_takeLess_52 ?_
                refine g_cvI C vc_X3_38 (c_X2_put l G rg _ _ _ _ _ hot) ⟨Nat.le_of_ble_eq_true rfl, Nat.le_of_ble_eq_true rfl⟩ (hot) rfl rfl (Nat.le_of_ble_eq_true rfl) ⟨Nat.zero_le _, Nat.zero_le _⟩ dX3_takeLess_55 (fun r_55 I_55 L_55 p_55 => ?_)
                obtain ⟨rfl, rfl, rfl⟩ := Put_some p_55 (hv_2 h_45)
                · have hcv : hv (I (cn + 1) (ix i j)) i j = hv (I (cn + 1) (ix i j)) i j := rfl
                  refine j_if_eq (tgt := 106) C dX3_takeLess_58 (by decide) (fun h_58 => ?_) (fun h_58 => ?_)
                  · exact absurd h_58 (by decide)
                  · refine j_aload_n C dX3_takeLess_61 rfl rfl ?_
                    refine g_getR C (by assumption) fl_X3_22 (by rfl) dX3_takeLess_62 ?_
                    refine j_aload_n C dX3_takeLess_65 rfl rfl ?_
                    refine j_aload_n C dX3_takeLess_66 rfl rfl ?_
                    refine g_getR C (by assumption) fl_X3_22 (by rfl) dX3_takeLess_67 ?_
                    refine g_cvI C vc_X3_46 (c_X2_product l G rg _ _ _ _ _ hot hmo hot) ⟨Nat.le_of_ble_eq_true rfl, Nat.le_of_ble_eq_true rfl⟩ (hot) rfl rfl (Nat.le_of_ble_eq_true rfl) ⟨Nat.zero_le _, Nat.zero_le _⟩ dX3_takeLess_70 (fun r_70 I_70 L_70 p_70 => ?_)
                    rw [fr_setF, if_neg (by omega), fr_setF, if_pos rfl, hF1.fr (by omega)] at p_70
                    obtain ⟨rfl, ⟨z_70, hz_70, rfl, rfl⟩ | ⟨hz_70, rfl, rfl⟩⟩ := p_70
                    · refine j_if_eq (tgt := 106) C dX3_takeLess_73 (by decide) (fun h_73 => ?_) (fun h_73 => ?_)
                      · exact absurd h_73 (by decide)
                      · refine j_aload_n C dX3_takeLess_76 rfl rfl ?_
                        refine j_iload C dX3_takeLess_77 rfl ?_
                        refine j_iload C dX3_takeLess_79 rfl ?_
                        refine g_cvR C vc_X3_26 (c_X3_at l G rg _ _ _ _ _ (by assumption) (by omega) (by omega)) ⟨Nat.le_of_ble_eq_true rfl, Nat.le_of_ble_eq_true rfl⟩ (hm1) rfl rfl (Nat.le_of_ble_eq_true rfl) ⟨Nat.zero_le _, Nat.zero_le _⟩ dX3_takeLess_81 (fun r_81 I_81 L_81 p_81 => ?_)
                        obtain ⟨rfl, rfl, rfl⟩ := p_81
                        refine j_aload_n C dX3_takeLess_84 rfl rfl ?_
                        refine j_iload C dX3_takeLess_85 rfl ?_
                        refine j_iload C dX3_takeLess_87 rfl ?_
                        refine g_cvR C vc_X3_26 (c_X3_at l G rg _ _ _ _ _ (by assumption) (by omega) (by omega)) ⟨Nat.le_of_ble_eq_true rfl, Nat.le_of_ble_eq_true rfl⟩ (hm1) rfl rfl (Nat.le_of_ble_eq_true rfl) ⟨Nat.zero_le _, Nat.zero_le _⟩ dX3_takeLess_89 (fun r_89 I_89 L_89 p_89 => ?_)
                        obtain ⟨rfl, rfl, rfl⟩ := p_89
                        refine j_aload_n C dX3_takeLess_92 rfl rfl ?_
                        refine g_getR C (by assumption) fl_X3_22 (by rfl) dX3_takeLess_93 ?_
                        have hA := hm3 (i * 5 + j) (by omega)
                        refine g_cvI C vc_X3_50 (c_X2_difference l G rg _ _ _ _ _ hA hA hot) ⟨Nat.le_of_ble_eq_true rfl, Nat.le_of_ble_eq_true rfl⟩ (hA) rfl rfl (Nat.le_of_ble_eq_true rfl) ⟨Nat.zero_le _, Nat.zero_le _⟩ dX3_takeLess_96 (fun r_96 I_96 L_96 p_96 => ?_)
                        rw [fr_setF, if_neg (by omega), fr_setF, if_neg (by omega), fr_setF, if_pos rfl, (hT1 i j (by omega) (by omega)).2 (by unfold prc; omega)] at p_96
                        obtain ⟨rfl, ⟨z_96, hz_96, rfl, rfl⟩ | ⟨hz_96, rfl, rfl⟩⟩ := p_96
                        · have htl : tlO (I (g + 1)) (I (cn + 1)) (fr L mo) i j = some z_96 := by unfold tlO; rw [hz_70]; exact hz_96
                          refine j_if_eq (tgt := 106) C dX3_takeLess_99 (by decide) (fun h_99 => ?_) (fun h_99 => ?_)
                          · exact absurd h_99 (by decide)
                          · refine j_iconst (v := nI 1) C dX3_takeLess_102 (by decide) ?_
                            refine j_goto (tgt := 107) C dX3_takeLess_103 (by decide) ?_
                            refine j_istore C dX3_takeLess_107 (by decide) ?_
                            refine j_iload C dX3_takeLess_109 rfl ?_
                            refine j_if_ne (tgt := 116) C dX3_takeLess_111 (by decide) (fun h_111 => ?_) (fun h_111 => ?_)
                            · refine j_aload_n C dX3_takeLess_116 rfl rfl ?_
                              refine j_iload C dX3_takeLess_117 rfl ?_
                              refine j_iload C dX3_takeLess_119 rfl ?_
                              refine g_cvR C vc_X3_26 (c_X3_at l G rg _ _ _ _ _ (by assumption) (by omega) (by omega)) ⟨Nat.le_of_ble_eq_true rfl, Nat.le_of_ble_eq_true rfl⟩ (hm1) rfl rfl (Nat.le_of_ble_eq_true rfl) ⟨Nat.zero_le _, Nat.zero_le _⟩ dX3_takeLess_121 (fun r_121 I_121 L_121 p_121 => ?_)
                              obtain ⟨rfl, rfl, rfl⟩ := p_121
                              refine j_aload_n C dX3_takeLess_124 rfl rfl ?_
                              refine j_iload C dX3_takeLess_125 rfl ?_
                              refine j_iload C dX3_takeLess_127 rfl ?_
                              refine g_cvR C vc_X3_26 (c_X3_at l G rg _ _ _ _ _ (by assumption) (by omega) (by omega)) ⟨Nat.le_of_ble_eq_true rfl, Nat.le_of_ble_eq_true rfl⟩ (hm1) rfl rfl (Nat.le_of_ble_eq_true rfl) ⟨Nat.zero_le _, Nat.zero_le _⟩ dX3_takeLess_129 (fun r_129 I_129 L_129 p_129 => ?_)
                              obtain ⟨rfl, rfl, rfl⟩ := p_129
                              have hA2 := hm3 (i * 5 + j) (by omega)
                              have hB2 := hm3 (j * 5 + i) (by omega)
                              refine g_cvV C vc_X3_53 (c_X2_copy l G rg _ _ _ _ hB2 hA2) ⟨Nat.le_of_ble_eq_true rfl, Nat.le_of_ble_eq_true rfl⟩ (hB2) rfl rfl (Nat.le_of_ble_eq_true rfl) ⟨Nat.zero_le _, Nat.zero_le _⟩ dX3_takeLess_132 (fun I_132 L_132 p_132 => ?_)
                              obtain ⟨rfl, rfl⟩ := p_132
                              first | refine n_iinc (n := 1) C dX3_takeLess_135 rfl (by decide) ?_ | refine j_iinc C dX3_takeLess_135 rfl rfl (by decide) ?_
                              refine j_goto (tgt := 21) C dX3_takeLess_138 (by decide) ?_
                              refine j_rm 7 ?_
                              refine ih_lq (j + 1) _ (by omega) (by omega) (by omega) ((((hF1.set (by omega) (by omega)).set (by omega) (by omega)).set (by omega) (by omega)).set (by omega) (by omega)) (TL_s hT1 hn q3 (by omega) htl ?_ ?_ (fun q w1 w2 w3 => ?_))
                              · simp only [fr_setF]; split <;> simp_all
                              · simp only [fr_setF]; simp
                              · simp only [fr_setF]; rw [if_neg (by omega), if_neg (by omega), if_neg (by omega), if_neg (by omega)]
                            · exact absurd h_111 (by decide)
                        · have htl : tlO (I (g + 1)) (I (cn + 1)) (fr L mo) i j = none := by unfold tlO; rw [hz_70]; exact hz_96
                          refine j_if_eq (tgt := 106) C dX3_takeLess_99 (by decide) (fun h_99 => ?_) (fun h_99 => ?_)
                          · refine j_iconst (v := nI 0) C dX3_takeLess_106 (by decide) ?_
                            refine j_istore C dX3_takeLess_107 (by decide) ?_
                            refine j_iload C dX3_takeLess_109 rfl ?_
                            refine j_if_ne (tgt := 116) C dX3_takeLess_111 (by decide) (fun h_111 => ?_) (fun h_111 => ?_)
                            · exact absurd rfl h_111
                            · refine j_iconst (v := nI 0) C dX3_takeLess_114 (by decide) ?_
                              exact j_zret C hr (by first | rfl | exact b2i_n _ rfl) dX3_takeLess_115 (⟨rfl, by first | exact (((hF1.set (by omega) (by omega)).set (by omega) (by omega)).set (by omega) (by omega)) | exact ((hF1.set (by omega) (by omega)).set (by omega) (by omega)) | exact (hF1.set (by omega) (by omega)), Or.inr ⟨rfl, i, j, by omega, by omega, by first | exact htl | (unfold tlO; rw [hz_70]; rfl)⟩⟩)
                          · exact absurd rfl h_99
                    · refine j_if_eq (tgt := 106) C dX3_takeLess_73 (by decide) (fun h_73 => ?_) (fun h_73 => ?_)
                      · refine j_iconst (v := nI 0) C dX3_takeLess_106 (by decide) ?_
                        refine j_istore C dX3_takeLess_107 (by decide) ?_
                        refine j_iload C dX3_takeLess_109 rfl ?_
                        refine j_if_ne (tgt := 116) C dX3_takeLess_111 (by decide) (fun h_111 => ?_) (fun h_111 => ?_)
                        · exact absurd rfl h_111
                        · refine j_iconst (v := nI 0) C dX3_takeLess_114 (by decide) ?_
                          exact j_zret C hr (by first | rfl | exact b2i_n _ rfl) dX3_takeLess_115 (⟨rfl, by first | exact (((hF1.set (by omega) (by omega)).set (by omega) (by omega)).set (by omega) (by omega)) | exact ((hF1.set (by omega) (by omega)).set (by omega) (by omega)) | exact (hF1.set (by omega) (by omega)), Or.inr ⟨rfl, i, j, by omega, by omega, by first | exact htl | (unfold tlO; rw [hz_70]; rfl)⟩⟩)
                      · exact absurd rfl h_73
              · refine j_lconst (v := 1) C dX3_takeLess_48 (by decide) ?_
                refine j_goto (tgt := 55) C dX3_takeLess_49 (by decide) ?_
                refine g_cvI C vc_X3_38 (c_X2_put l G rg _ _ _ _ _ hot) ⟨Nat.le_of_ble_eq_true rfl, Nat.le_of_ble_eq_true rfl⟩ (hot) rfl rfl (Nat.le_of_ble_eq_true rfl) ⟨Nat.zero_le _, Nat.zero_le _⟩ dX3_takeLess_55 (fun r_55 I_55 L_55 p_55 => ?_)
                obtain ⟨rfl, rfl, rfl⟩ := Put_some p_55 (hv_1 h_45)
                · have hcv : hv (I (cn + 1) (ix i j)) i j = hv (I (cn + 1) (ix i j)) i j := rfl
                  refine j_if_eq (tgt := 106) C dX3_takeLess_58 (by decide) (fun h_58 => ?_) (fun h_58 => ?_)
                  · exact absurd h_58 (by decide)
                  · refine j_aload_n C dX3_takeLess_61 rfl rfl ?_
                    refine g_getR C (by assumption) fl_X3_22 (by rfl) dX3_takeLess_62 ?_
                    refine j_aload_n C dX3_takeLess_65 rfl rfl ?_
                    refine j_aload_n C dX3_takeLess_66 rfl rfl ?_
                    refine g_getR C (by assumption) fl_X3_22 (by rfl) dX3_takeLess_67 ?_
                    refine g_cvI C vc_X3_46 (c_X2_product l G rg _ _ _ _ _ hot hmo hot) ⟨Nat.le_of_ble_eq_true rfl, Nat.le_of_ble_eq_true rfl⟩ (hot) rfl rfl (Nat.le_of_ble_eq_true rfl) ⟨Nat.zero_le _, Nat.zero_le _⟩ dX3_takeLess_70 (fun r_70 I_70 L_70 p_70 => ?_)
                    rw [fr_setF, if_neg (by omega), fr_setF, if_pos rfl, hF1.fr (by omega)] at p_70
                    obtain ⟨rfl, ⟨z_70, hz_70, rfl, rfl⟩ | ⟨hz_70, rfl, rfl⟩⟩ := p_70
                    · refine j_if_eq (tgt := 106) C dX3_takeLess_73 (by decide) (fun h_73 => ?_) (fun h_73 => ?_)
                      · exact absurd h_73 (by decide)
                      · refine j_aload_n C dX3_takeLess_76 rfl rfl ?_
                        refine j_iload C dX3_takeLess_77 rfl ?_
                        refine j_iload C dX3_takeLess_79 rfl ?_
                        refine g_cvR C vc_X3_26 (c_X3_at l G rg _ _ _ _ _ (by assumption) (by omega) (by omega)) ⟨Nat.le_of_ble_eq_true rfl, Nat.le_of_ble_eq_true rfl⟩ (hm1) rfl rfl (Nat.le_of_ble_eq_true rfl) ⟨Nat.zero_le _, Nat.zero_le _⟩ dX3_takeLess_81 (fun r_81 I_81 L_81 p_81 => ?_)
                        obtain ⟨rfl, rfl, rfl⟩ := p_81
                        refine j_aload_n C dX3_takeLess_84 rfl rfl ?_
                        refine j_iload C dX3_takeLess_85 rfl ?_
                        refine j_iload C dX3_takeLess_87 rfl ?_
                        refine g_cvR C vc_X3_26 (c_X3_at l G rg _ _ _ _ _ (by assumption) (by omega) (by omega)) ⟨Nat.le_of_ble_eq_true rfl, Nat.le_of_ble_eq_true rfl⟩ (hm1) rfl rfl (Nat.le_of_ble_eq_true rfl) ⟨Nat.zero_le _, Nat.zero_le _⟩ dX3_takeLess_89 (fun r_89 I_89 L_89 p_89 => ?_)
                        obtain ⟨rfl, rfl, rfl⟩ := p_89
                        refine j_aload_n C dX3_takeLess_92 rfl rfl ?_
                        refine g_getR C (by assumption) fl_X3_22 (by rfl) dX3_takeLess_93 ?_
                        have hA := hm3 (i * 5 + j) (by omega)
                        refine g_cvI C vc_X3_50 (c_X2_difference l G rg _ _ _ _ _ hA hA hot) ⟨Nat.le_of_ble_eq_true rfl, Nat.le_of_ble_eq_true rfl⟩ (hA) rfl rfl (Nat.le_of_ble_eq_true rfl) ⟨Nat.zero_le _, Nat.zero_le _⟩ dX3_takeLess_96 (fun r_96 I_96 L_96 p_96 => ?_)
                        rw [fr_setF, if_neg (by omega), fr_setF, if_neg (by omega), fr_setF, if_pos rfl, (hT1 i j (by omega) (by omega)).2 (by unfold prc; omega)] at p_96
                        obtain ⟨rfl, ⟨z_96, hz_96, rfl, rfl⟩ | ⟨hz_96, rfl, rfl⟩⟩ := p_96
                        · have htl : tlO (I (g + 1)) (I (cn + 1)) (fr L mo) i j = some z_96 := by unfold tlO; rw [hz_70]; exact hz_96
                          refine j_if_eq (tgt := 106) C dX3_takeLess_99 (by decide) (fun h_99 => ?_) (fun h_99 => ?_)
                          · exact absurd h_99 (by decide)
                          · refine j_iconst (v := nI 1) C dX3_takeLess_102 (by decide) ?_
                            refine j_goto (tgt := 107) C dX3_takeLess_103 (by decide) ?_
                            refine j_istore C dX3_takeLess_107 (by decide) ?_
                            refine j_iload C dX3_takeLess_109 rfl ?_
                            refine j_if_ne (tgt := 116) C dX3_takeLess_111 (by decide) (fun h_111 => ?_) (fun h_111 => ?_)
                            · refine j_aload_n C dX3_takeLess_116 rfl rfl ?_
                              refine j_iload C dX3_takeLess_117 rfl ?_
                              refine j_iload C dX3_takeLess_119 rfl ?_
                              refine g_cvR C vc_X3_26 (c_X3_at l G rg _ _ _ _ _ (by assumption) (by omega) (by omega)) ⟨Nat.le_of_ble_eq_true rfl, Nat.le_of_ble_eq_true rfl⟩ (hm1) rfl rfl (Nat.le_of_ble_eq_true rfl) ⟨Nat.zero_le _, Nat.zero_le _⟩ dX3_takeLess_121 (fun r_121 I_121 L_121 p_121 => ?_)
                              obtain ⟨rfl, rfl, rfl⟩ := p_121
                              refine j_aload_n C dX3_takeLess_124 rfl rfl ?_
                              refine j_iload C dX3_takeLess_125 rfl ?_
                              refine j_iload C dX3_takeLess_127 rfl ?_
                              refine g_cvR C vc_X3_26 (c_X3_at l G rg _ _ _ _ _ (by assumption) (by omega) (by omega)) ⟨Nat.le_of_ble_eq_true rfl, Nat.le_of_ble_eq_true rfl⟩ (hm1) rfl rfl (Nat.le_of_ble_eq_true rfl) ⟨Nat.zero_le _, Nat.zero_le _⟩ dX3_takeLess_129 (fun r_129 I_129 L_129 p_129 => ?_)
                              obtain ⟨rfl, rfl, rfl⟩ := p_129
                              have hA2 := hm3 (i * 5 + j) (by omega)
                              have hB2 := hm3 (j * 5 + i) (by omega)
                              refine g_cvV C vc_X3_53 (c_X2_copy l G rg _ _ _ _ hB2 hA2) ⟨Nat.le_of_ble_eq_true rfl, Nat.le_of_ble_eq_true rfl⟩ (hB2) rfl rfl (Nat.le_of_ble_eq_true rfl) ⟨Nat.zero_le _, Nat.zero_le _⟩ dX3_takeLess_132 (fun I_132 L_132 p_132 => ?_)
                              obtain ⟨rfl, rfl⟩ := p_132
                              first | refine n_iinc (n := 1) C dX3_takeLess_135 rfl (by decide) ?_ | refine j_iinc C dX3_takeLess_135 rfl rfl (by decide) ?_
                              refine j_goto (tgt := 21) C dX3_takeLess_138 (by decide) ?_
                              refine j_rm 7 ?_
                              refine ih_lq (j + 1) _ (by omega) (by omega) (by omega) ((((hF1.set (by omega) (by omega)).set (by omega) (by omega)).set (by omega) (by omega)).set (by omega) (by omega)) (TL_s hT1 hn q3 (by omega) htl ?_ ?_ (fun q w1 w2 w3 => ?_))
                              · simp only [fr_setF]; split <;> simp_all
                              · simp only [fr_setF]; simp
                              · simp only [fr_setF]; rw [if_neg (by omega), if_neg (by omega), if_neg (by omega), if_neg (by omega)]
                            · exact absurd h_111 (by decide)
                        · have htl : tlO (I (g + 1)) (I (cn + 1)) (fr L mo) i j = none := by unfold tlO; rw [hz_70]; exact hz_96
                          refine j_if_eq (tgt := 106) C dX3_takeLess_99 (by decide) (fun h_99 => ?_) (fun h_99 => ?_)
                          · refine j_iconst (v := nI 0) C dX3_takeLess_106 (by decide) ?_
                            refine j_istore C dX3_takeLess_107 (by decide) ?_
                            refine j_iload C dX3_takeLess_109 rfl ?_
                            refine j_if_ne (tgt := 116) C dX3_takeLess_111 (by decide) (fun h_111 => ?_) (fun h_111 => ?_)
                            · exact absurd rfl h_111
                            · refine j_iconst (v := nI 0) C dX3_takeLess_114 (by decide) ?_
                              exact j_zret C hr (by first | rfl | exact b2i_n _ rfl) dX3_takeLess_115 (⟨rfl, by first | exact (((hF1.set (by omega) (by omega)).set (by omega) (by omega)).set (by omega) (by omega)) | exact ((hF1.set (by omega) (by omega)).set (by omega) (by omega)) | exact (hF1.set (by omega) (by omega)), Or.inr ⟨rfl, i, j, by omega, by omega, by first | exact htl | (unfold tlO; rw [hz_70]; rfl)⟩⟩)
                          · exact absurd rfl h_99
                    · refine j_if_eq (tgt := 106) C dX3_takeLess_73 (by decide) (fun h_73 => ?_) (fun h_73 => ?_)
                      · refine j_iconst (v := nI 0) C dX3_takeLess_106 (by decide) ?_
                        refine j_istore C dX3_takeLess_107 (by decide) ?_
                        refine j_iload C dX3_takeLess_109 rfl ?_
                        refine j_if_ne (tgt := 116) C dX3_takeLess_111 (by decide) (fun h_111 => ?_) (fun h_111 => ?_)
                        · exact absurd rfl h_111
                        · refine j_iconst (v := nI 0) C dX3_takeLess_114 (by decide) ?_
                          exact j_zret C hr (by first | rfl | exact b2i_n _ rfl) dX3_takeLess_115 (⟨rfl, by first | exact (((hF1.set (by omega) (by omega)).set (by omega) (by omega)).set (by omega) (by omega)) | exact ((hF1.set (by omega) (by omega)).set (by omega) (by omega)) | exact (hF1.set (by omega) (by omega)), Or.inr ⟨rfl, i, j, by omega, by omega, by first | exact htl | (unfold tlO; rw [hz_70]; rfl)⟩⟩)
                      · exact absurd rfl h_73
        exact lq (n + 2) i L1 (by omega) (by omega) (by omega) hF1 hT1
  refine j_aload_n C dX3_takeLess_0 rfl rfl ?_
  refine j_aload_n C dX3_takeLess_1 rfl rfl ?_
  refine j_iload C dX3_takeLess_2 rfl ?_
  refine g_cvV C vc_X3_42 (c_X3_take l G rg I L o g n hm hg hn) ⟨Nat.le_of_ble_eq_true rfl, Nat.le_of_ble_eq_true rfl⟩ (hm1) rfl rfl (Nat.le_of_ble_eq_true rfl) ⟨Nat.zero_le _, Nat.zero_le _⟩ dX3_takeLess_4 (fun I_4 L_4 p_4 => ?_)
  obtain ⟨rfl, hF0, hT0⟩ := p_4
  refine j_iconst (v := nI 0) C dX3_takeLess_7 (by decide) ?_
  refine j_istore C dX3_takeLess_8 (by decide) ?_
  exact lp (n + 2) 0 _ (by omega) (by omega) (hF0.mono (by omega) (by omega)) (TL_0 hT0)
end
section
/-! ===== the elimination, as mathematics ===== -/
noncomputable def cif {α : Type} (p : Prop) (a b : α) : α := @ite α p (Classical.propDecidable p) a b
theorem cif_t {α : Type} {p : Prop} {a b : α} (h : p) : cif p a b = a := if_pos h
theorem cif_f {α : Type} {p : Prop} {a b : α} (h : ¬ p) : cif p a b = b := if_neg h
def ordn (n t : Nat) : Nat := if t < n then t + 1 else 0
theorem ordn_le (n t : Nat) : ordn n t ≤ n := by unfold ordn; split <;> omega
theorem ordn_inj {n a b : Nat} (ha : a ≤ n) (hb : b ≤ n) (h : ordn n a = ordn n b) : a = b := by
  unfold ordn at h
  split at h <;> split at h <;> omega
theorem ordn_onto {n k : Nat} (h : k ≤ n) : ∃ t, t ≤ n ∧ ordn n t = k := by
  by_cases h0 : k = 0
  · exact ⟨n, Nat.le_refl n, by unfold ordn; rw [if_neg (by omega)]; omega⟩
  · exact ⟨k - 1, by omega, by unfold ordn; rw [if_pos (by omega)]; omega⟩
/-- the first of THE ORDER's last k places with P -/
def ffo (P : Nat → Bool) (n : Nat) : Nat → Option Nat
  | 0 => none
  | k + 1 => if P (ordn n (n - k)) = true then some (ordn n (n - k)) else ffo P n k
theorem ffo_t {P : Nat → Bool} {n t : Nat} (ht : t ≤ n) (h : P (ordn n t) = true) : ffo P n (n + 1 - t) = some (ordn n t) := by
  rw [show n + 1 - t = (n - t) + 1 by omega, ffo, show n - (n - t) = t by omega, if_pos h]
theorem ffo_f {P : Nat → Bool} {n t : Nat} (ht : t ≤ n) (h : P (ordn n t) = false) : ffo P n (n + 1 - t) = ffo P n (n + 1 - (t + 1)) := by
  rw [show n + 1 - t = (n - t) + 1 by omega, ffo, show n - (n - t) = t by omega, if_neg (by rw [h]; decide)]
  congr 1
  omega
theorem ffo_e {P : Nat → Bool} {n t : Nat} (ht : n < t) : ffo P n (n + 1 - t) = none := by
  rw [show n + 1 - t = 0 by omega]; rfl
theorem ffo_some {P : Nat → Bool} {n : Nat} : ∀ {k j : Nat}, ffo P n k = some j → j ≤ n ∧ P j = true
  | 0, _, h => by cases h
  | k + 1, j, h => by
    rw [ffo] at h
    split at h
    · next hp => cases h; exact ⟨ordn_le _ _, hp⟩
    · exact ffo_some h
theorem ffo_none {P : Nat → Bool} {n : Nat} : ∀ {k : Nat}, ffo P n k = none → k ≤ n + 1 → ∀ t, n + 1 - k ≤ t → t ≤ n → P (ordn n t) = false
  | 0, _, hk, t, h1, h2 => by omega
  | k + 1, h, hk, t, h1, h2 => by
    rw [ffo] at h
    split at h
    · cases h
    · next hp =>
      by_cases e : t = n - k
      · rw [e]; exact Bool.eq_false_iff.mpr hp
      · exact ffo_none h (by omega) t (by omega) h2
theorem ffo_cong {P Q : Nat → Bool} {n : Nat} (h : ∀ j, j ≤ n → P j = Q j) : ∀ k, ffo P n k = ffo Q n k
  | 0 => rfl
  | k + 1 => by rw [ffo, ffo, h _ (ordn_le _ _), ffo_cong h k]
/-- the first pair -/
def ffp (P : Nat → Nat → Bool) (n : Nat) : Nat → Option (Nat × Nat)
  | 0 => none
  | k + 1 => match ffo (P (ordn n (n - k))) n k with
    | some j => some (ordn n (n - k), j)
    | none => ffp P n k
theorem ffp_t {P : Nat → Nat → Bool} {n t j : Nat} (ht : t ≤ n) (h : ffo (P (ordn n t)) n (n - t) = some j) : ffp P n (n + 1 - t) = some (ordn n t, j) := by
  rw [show n + 1 - t = (n - t) + 1 by omega, ffp, show n - (n - t) = t by omega, h]
theorem ffp_f {P : Nat → Nat → Bool} {n t : Nat} (ht : t ≤ n) (h : ffo (P (ordn n t)) n (n - t) = none) : ffp P n (n + 1 - t) = ffp P n (n + 1 - (t + 1)) := by
  rw [show n + 1 - t = (n - t) + 1 by omega, ffp, show n - (n - t) = t by omega, h]
  show ffp P n (n - t) = ffp P n (n + 1 - (t + 1))
  congr 1
  omega
theorem ffp_e {P : Nat → Nat → Bool} {n t : Nat} (ht : n < t) : ffp P n (n + 1 - t) = none := by
  rw [show n + 1 - t = 0 by omega]; rfl
theorem ffp_some {P : Nat → Nat → Bool} {n : Nat} : ∀ {k i j : Nat}, ffp P n k = some (i, j) → i ≤ n ∧ j ≤ n ∧ P i j = true
  | 0, _, _, h => by cases h
  | k + 1, i, j, h => by
    rw [ffp] at h
    split at h
    · next w hw =>
      cases h
      have := ffo_some hw
      exact ⟨ordn_le _ _, this.1, this.2⟩
    · exact ffp_some h
/-- matrix, what is LEFT, number of squares, pivots, weights, lines, with whom a pivot was left -/
abbrev ES : Type := (Nat → Nat → Fr) × (Nat → Bool) × Nat × (Nat → Nat) × (Nat → Fr) × (Nat → Nat → Fr) × (Nat → Nat → Bool)
abbrev eM (E : ES) : Nat → Nat → Fr := E.1
abbrev eL (E : ES) : Nat → Bool := E.2.1
abbrev eS (E : ES) : Nat := E.2.2.1
abbrev eP (E : ES) : Nat → Nat := E.2.2.2.1
abbrev eW (E : ES) : Nat → Fr := E.2.2.2.2.1
abbrev eN (E : ES) : Nat → Nat → Fr := E.2.2.2.2.2.1
abbrev eT (E : ES) : Nat → Nat → Bool := E.2.2.2.2.2.2
def rwO (E : ES) (k j : Nat) : Option Fr := if eL E j = true ∧ j ≠ k then fDiv (eM E k j) (eM E k k) else some (if j = k then (1, 1) else (0, 1))
def rwF (E : ES) (k j : Nat) : Fr := (rwO E k j).getD (0, 1)
def rwOk (n : Nat) (E : ES) (k : Nat) : Prop := ∀ j, j ≤ n → rwO E k j ≠ none
def midE (E : ES) (k : Nat) : ES := (eM E, va_up (eL E) k false, eS E + 1, va_up (eP E) (eS E) k, va_up (eW E) (eS E) (eM E k k), va_up (eN E) (eS E) (rwF E k), va_up (eT E) (eS E) (fun j => eL E j && decide (j ≠ k)))
def posn (n i : Nat) : Nat := if i = 0 then n else i - 1
theorem posn_ordn {n t : Nat} (h : t ≤ n) : posn n (ordn n t) = t := by
  unfold posn ordn
  split <;> split at * <;> omega
def cpO (E : ES) (k i j : Nat) : Option Fr := (fMul (eM E i k) (eN E (eS E - 1) j)).bind (fun x => fSub (eM E i j) x)
def nwO (n : Nat) (E : ES) (k i j : Nat) : Option Fr := if posn n i ≤ posn n j then cpO E k i j else cpO E k j i
def lsOk (n : Nat) (E : ES) (k : Nat) : Prop := ∀ i j, i ≤ n → j ≤ n → eL E i = true → eL E j = true → nwO n E k i j ≠ none
def lsE (n : Nat) (E : ES) (k : Nat) : ES := (fun i j => if eL E i = true ∧ eL E j = true then (nwO n E k i j).getD (0, 1) else eM E i j, E.2)
noncomputable def pvO (n : Nat) (E : ES) (k : Nat) : Option ES := cif (rwOk n E k ∧ lsOk n (midE E k) k) (some (lsE n (midE E k) k)) none
def isSg (sg : Int32) (E : ES) (k : Nat) : Bool := eL E k && decide (lg_cmp (eM E k k).1 0 = sg)
def isPr (E : ES) (i j : Nat) : Bool := eL E i && (eL E j && decide (¬ lg_cmp (eM E i j).1 0 = 0))
/-- 0: NEGATIVE by k or by a pair, 1: DONE, 2: TOO LONG -/
noncomputable def elim (n : Nat) : Nat → ES → Nat × Nat × Option Nat × ES
  | 0, E => (1, 0, none, E)
  | f + 1, E => match ffo (isSg (-1) E) n (n + 1) with
    | some k => (0, k, none, E)
    | none => match ffo (isSg 1 E) n (n + 1) with
      | none => match ffp (isPr E) n (n + 1) with
        | some (i, j) => (0, i, some j, E)
        | none => (1, 0, none, E)
      | some k => match pvO n E k with
        | none => (2, 0, none, E)
        | some E' => elim n f E'
theorem elim_neg {n f k : Nat} {E : ES} (h : ffo (isSg (-1) E) n (n + 1) = some k) : elim n (f + 1) E = (0, k, none, E) := by rw [elim, h]
theorem elim_pair {n f i j : Nat} {E : ES} (h : ffo (isSg (-1) E) n (n + 1) = none) (h2 : ffo (isSg 1 E) n (n + 1) = none) (h3 : ffp (isPr E) n (n + 1) = some (i, j)) : elim n (f + 1) E = (0, i, some j, E) := by rw [elim, h, h2, h3]
theorem elim_done {n f : Nat} {E : ES} (h : ffo (isSg (-1) E) n (n + 1) = none) (h2 : ffo (isSg 1 E) n (n + 1) = none) (h3 : ffp (isPr E) n (n + 1) = none) : elim n (f + 1) E = (1, 0, none, E) := by rw [elim, h, h2, h3]
theorem elim_long {n f k : Nat} {E : ES} (h : ffo (isSg (-1) E) n (n + 1) = none) (h2 : ffo (isSg 1 E) n (n + 1) = some k) (h3 : pvO n E k = none) : elim n (f + 1) E = (2, 0, none, E) := by rw [elim, h, h2]; simp only [h3]
theorem elim_go {n f k : Nat} {E E' : ES} (h : ffo (isSg (-1) E) n (n + 1) = none) (h2 : ffo (isSg 1 E) n (n + 1) = some k) (h3 : pvO n E k = some E') : elim n (f + 1) E = elim n f E' := by rw [elim, h, h2]; simp only [h3]
/-- how many are left -/
def cntL (lf : Nat → Bool) : Nat → Nat
  | 0 => 0
  | k + 1 => cntL lf k + (if lf k = true then 1 else 0)
theorem cntL_le (lf : Nat → Bool) : ∀ k, cntL lf k ≤ k
  | 0 => Nat.le_refl 0
  | k + 1 => by have := cntL_le lf k; rw [cntL]; split <;> omega
theorem cntL_up (lf : Nat → Bool) {i : Nat} (hi : lf i = true) : ∀ {k : Nat}, i < k → cntL (va_up lf i false) k + 1 = cntL lf k
  | 0, h => by omega
  | k + 1, h => by
    rw [cntL, cntL]
    by_cases e : i = k
    · subst e
      rw [va_up_self, hi]
      have : ∀ q, q ≤ i → cntL (va_up lf i false) q = cntL lf q := by
        intro q
        induction q with
        | zero => intro _; rfl
        | succ q ih => intro hq; rw [cntL, cntL, ih (by omega), va_up_ne _ _ (by omega)]
      rw [this i (Nat.le_refl i)]
      simp
    · rw [va_up_ne _ _ (fun q => e q.symm)]
      have := cntL_up lf hi (show i < k by omega)
      omega
theorem cntL_0 {lf : Nat → Bool} : ∀ {k : Nat}, cntL lf k = 0 → ∀ i, i < k → lf i = false
  | 0, _, i, hi => by omega
  | k + 1, h, i, hi => by
    rw [cntL] at h
    by_cases e : i = k
    · subst e
      cases hl : lf i with
      | false => rfl
      | true => rw [hl] at h; simp at h
    · exact cntL_0 (show cntL lf k = 0 by omega) i (by omega)
theorem cntL_all {lf : Nat → Bool} : ∀ {k : Nat}, (∀ i, i < k → lf i = true) → cntL lf k = k
  | 0, _ => rfl
  | k + 1, h => by rw [cntL, cntL_all (fun i hi => h i (by omega)), h k (by omega)]; rfl
theorem ffo_nil {P : Nat → Bool} {n : Nat} (h : ∀ j, j ≤ n → P j = false) : ∀ k, ffo P n k = none
  | 0 => rfl
  | k + 1 => by rw [ffo, h _ (ordn_le _ _), if_neg (by decide), ffo_nil h k]
theorem ffp_nil {P : Nat → Nat → Bool} {n : Nat} (h : ∀ i j, i ≤ n → j ≤ n → P i j = false) : ∀ k, ffp P n k = none
  | 0 => rfl
  | k + 1 => by rw [ffp, ffo_nil (fun j hj => h _ j (ordn_le _ _) hj), ffp_nil h k]
theorem pvO_L {n k : Nat} {E E' : ES} (h : pvO n E k = some E') : eL E' = va_up (eL E) k false ∧ eS E' = eS E + 1 := by
  unfold pvO at h
  by_cases hp : rwOk n E k ∧ lsOk n (midE E k) k
  · rw [cif_t hp] at h
    cases h
    exact ⟨rfl, rfl⟩
  · rw [cif_f hp] at h
    cases h
/-- more turns than are left to take make no difference -/
theorem elim_more {n : Nat} : ∀ {f : Nat} {E : ES}, cntL (eL E) (n + 1) ≤ f → elim n (f + 1) E = elim n f E
  | 0, E, h => by
    have h0 := cntL_0 (Nat.le_zero.mp h)
    rw [elim_done (ffo_nil (fun j hj => by unfold isSg; rw [h0 j (by omega)]; rfl) _) (ffo_nil (fun j hj => by unfold isSg; rw [h0 j (by omega)]; rfl) _) (ffp_nil (fun i j hi hj => by unfold isPr; rw [h0 i (by omega)]; rfl) _)]
    rfl
  | f + 1, E, h => by
    cases h1 : ffo (isSg (-1) E) n (n + 1) with
    | some k => rw [elim_neg h1, elim_neg h1]
    | none =>
      cases h2 : ffo (isSg 1 E) n (n + 1) with
      | none =>
        cases h3 : ffp (isPr E) n (n + 1) with
        | none => rw [elim_done h1 h2 h3, elim_done h1 h2 h3]
        | some q => obtain ⟨i, j⟩ := q; rw [elim_pair h1 h2 h3, elim_pair h1 h2 h3]
      | some k =>
        cases h3 : pvO n E k with
        | none => rw [elim_long h1 h2 h3, elim_long h1 h2 h3]
        | some E' =>
          rw [elim_go h1 h2 h3, elim_go h1 h2 h3]
          apply elim_more
          have hk := ffo_some h2
          have hl : eL E k = true := by
            have := hk.2
            unfold isSg at this
            exact (Bool.and_eq_true_iff.mp this).1
          rw [(pvO_L h3).1]
          have := cntL_up (eL E) hl (show k < n + 1 by omega)
          omega
end
section
/-! ===== the elimination's cells ===== -/
def RelC (n o : Nat) (I : II) (L : LL) (E : ES) : Prop :=
  I o 6 = nI n ∧ I o 7 = nI (eS E) ∧ eS E ≤ 5 ∧ (∀ i j, i ≤ n → j ≤ n → fr L (o + 3 + (i * 5 + j)) = eM E i j) ∧ (∀ k, k < 5 → I (o + 29) k = b2i (eL E k)) ∧
  ∀ s, s < eS E → I (o + 39 + 8 * s) 2 = nI (eP E s) ∧ eP E s ≤ n ∧ fr L (o + 40 + 8 * s) = eW E s ∧ ∀ j, j < 5 → fr L (o + 42 + 8 * s + j) = eN E s j
theorem up2_I {α : Type} {lo hi o k : Nat} {f g : Nat → Nat → α} {v : α} (h : Fm lo hi f g) (h1 : lo ≤ o) (h2 : o < hi) : Fm lo hi f (up2 g o k v) := fun q hq => by
  rw [up2_ne _ (fun e => hq (by omega))]
  exact h q hq
theorem lgc_0 (x : Int64) : lg_cmp x 0 = 0 ↔ x = 0 := lg_cmp_eq x 0
theorem nat_sub1 (a : Nat) : nI (a + 1) - nI 1 = nI a := by rw [pk_sub (by omega)]; congr 1
/-- RelC with other cells, in which what it reads is the same -/
theorem RelC.cong {n o : Nat} {I I1 : II} {L L1 : LL} {E : ES} (h : RelC n o I L E) (hn : n < 5) (h1 : I1 o 6 = I o 6) (h2 : I1 o 7 = I o 7) (h3 : ∀ q, q < 25 → fr L1 (o + 3 + q) = fr L (o + 3 + q)) (h4 : I1 (o + 29) = I (o + 29)) (h5 : ∀ s, s < 5 → I1 (o + 39 + 8 * s) 2 = I (o + 39 + 8 * s) 2) (h6 : ∀ q, o + 39 ≤ q → q < o + 79 → fr L1 q = fr L q) : RelC n o I1 L1 E := by
  obtain ⟨a1, a2, a3, a4, a5, a6⟩ := h
  refine ⟨h1.trans a1, h2.trans a2, a3, fun i j hi hj => ?_, fun k hk => by rw [h4]; exact a5 k hk, fun s hs => ?_⟩
  · rw [h3 _ (by omega)]; exact a4 i j hi hj
  · obtain ⟨b1, b2, b3, b4⟩ := a6 s hs
    refine ⟨by rw [h5 s (by omega)]; exact b1, b2, by rw [h6 _ (by omega) (by omega)]; exact b3, fun j hj => by rw [h6 _ (by omega) (by omega)]; exact b4 j hj⟩
theorem red_10 : fPut (decO 1) (decO 1) = some ((1, 1) : Fr) := by decide
theorem red_00 : fPut (decO 0) (decO 1) = some ((0, 1) : Fr) := by decide
/-- the square that a pivot starts -/
def sqI (k : Nat) (j : Nat) : Fr := if j = k then (1, 1) else (0, 1)

set_option maxHeartbeats 4000000 in
set_option maxRecDepth 20000 in
theorem c_X6_inOrder (l : Launch) (G : GT) (rg : RgT) (I : II) (L : LL) (t n : Nat) (ht : t < 2 ^ 30) (hn : n < 2 ^ 30) : CtI l yX6_inOrder cX6_inOrder 2 (some FieldType.int) 1 G rg I L [.int (nI t), .int (nI n)] (fun r I1 L1 => r = nI (ordn n t) ∧ I = I1 ∧ L = L1) := by
  refine ctI_of [some (.int (nI t)), some (.int (nI n))] rfl (Nat.le_of_ble_eq_true rfl) (by decide) ?_
  intro p e s m args below meth c C hr
  refine j_iload_n C dX6_inOrder_0 rfl rfl ?_
  refine j_iload_n C dX6_inOrder_1 rfl rfl ?_
  first | refine n_icmp_ge (tgt := 11) C (by omega) (by omega) dX6_inOrder_2 (by decide) (fun h_2 => ?_) (fun h_2 => ?_) | refine j_icmp_ge (tgt := 11) C dX6_inOrder_2 (by decide) (fun h_2 => ?_) (fun h_2 => ?_)
  · refine j_iconst (v := nI 0) C dX6_inOrder_11 (by decide) ?_
    exact j_iret C hr dX6_inOrder_12 (⟨by unfold ordn; first | rw [if_pos h_2] | rw [if_neg (by omega)], rfl, rfl⟩)
  · refine j_iload_n C dX6_inOrder_5 rfl rfl ?_
    refine j_iconst (v := nI 1) C dX6_inOrder_6 (by decide) ?_
    first | refine n_iadd C dX6_inOrder_7 ?_ | refine j_iadd C dX6_inOrder_7 ?_
    refine j_goto (tgt := 12) C dX6_inOrder_8 (by decide) ?_
    exact j_iret C hr dX6_inOrder_12 (⟨by unfold ordn; first | rw [if_pos h_2] | rw [if_neg (by omega)], rfl, rfl⟩)

set_option maxHeartbeats 4000000 in
set_option maxRecDepth 20000 in
theorem c_X5_start (l : Launch) (G : GT) (rg : RgT) (I : II) (L : LL) (o k a : Nat) (hs : isSq rg o) (ha : isF rg a) (hk : k < 5) (had : ¬ (o + 1 ≤ a ∧ a < o + 8)) : CtV l yX5_start cX5_start 4 none 3 G rg I L [.ref (gB G + o), .int (nI k), .ref (gB G + a)] (fun I1 L1 => up2 I o 2 (nI k) = I1 ∧ Fm (o + 1) (o + 8) L L1 ∧ fr L1 (o + 1) = fr L a ∧ ∀ j, j < 5 → fr L1 (o + 3 + j) = sqI k j) := by
  refine ctV_of [some (.ref (gB G + o)), some (.int (nI k)), some (.ref (gB G + a)), none] rfl (Nat.le_of_ble_eq_true rfl) (by decide) ?_
  intro p e s m args below meth c C hr
  obtain ⟨hs1, hs2, hs3, hs4⟩ := id hs
  have lp : ∀ (fuel : Nat) (j : Nat) (L1 : LL), 5 < fuel + j → j ≤ 5 → Fm (o + 1) (o + 8) L L1 → fr L1 (o + 1) = fr L a → (∀ i, i < j → fr L1 (o + 3 + i) = sqI k i) → J p l e (rmD 3) s m args below meth c (MQ below (QV G rg (fun I1 L1 => up2 I o 2 (nI k) = I1 ∧ Fm (o + 1) (o + 8) L L1 ∧ fr L1 (o + 1) = fr L a ∧ ∀ j, j < 5 → fr L1 (o + 3 + j) = sqI k j)) args s 0 0 (rg_A G rg)) 4 G rg 0 0 (up2 I o 2 (nI k)) L1 15 [some (.ref (gB G + o)), some (.int (nI k)), some (.ref (gB G + a)), some (.int (nI j))] [] := by
    intro fuel
    induction fuel with
    | zero => intro j L1 h1 h2 hF1 hA1 hC; exfalso; omega
    | succ fuel ih_lp =>
      intro j L1 h1 h2 hF1 hA1 hC
      refine j_iload_n C dX5_start_15 rfl rfl ?_
      refine j_iconst (v := nI 5) C dX5_start_16 (by decide) ?_
      first | refine n_icmp_ge (tgt := 47) C (by omega) (by omega) dX5_start_17 (by decide) (fun h_17 => ?_) (fun h_17 => ?_) | refine j_icmp_ge (tgt := 47) C dX5_start_17 (by decide) (fun h_17 => ?_) (fun h_17 => ?_)
      · exact j_vret C hr dX5_start_47 (⟨rfl, hF1, hA1, fun j2 hj2 => hC j2 (by omega)⟩)
      · refine j_aload_n C dX5_start_20 rfl rfl ?_
        refine g_getR C (by assumption) fl_X5_22 (by rfl) dX5_start_21 ?_
        refine j_iload_n C dX5_start_24 rfl rfl ?_
        refine g_aald3 C (by assumption) (by omega) (by decide) (by rfl) (by omega) dX5_start_25 ?_
        refine j_iload_n C dX5_start_26 rfl rfl ?_
        refine j_iload_n C dX5_start_27 rfl rfl ?_
        first | refine n_icmp_ne (tgt := 35) C (by omega) (by omega) dX5_start_28 (by decide) (fun h_28 => ?_) (fun h_28 => ?_) | refine j_icmp_ne (tgt := 35) C dX5_start_28 (by decide) (fun h_28 => ?_) (fun h_28 => ?_)
        · refine j_lconst (v := 0) C dX5_start_35 (by decide) ?_
          refine j_lconst (v := 1) C dX5_start_36 (by decide) ?_
          have hF := hs4 j (by omega)
          refine g_cvI C vc_X5_34 (c_X2_put l G rg _ _ _ _ _ hF) ⟨Nat.le_of_ble_eq_true rfl, Nat.le_of_ble_eq_true rfl⟩ (hF) rfl rfl (Nat.le_of_ble_eq_true rfl) ⟨Nat.zero_le _, Nat.zero_le _⟩ dX5_start_37 (fun r_37 I_37 L_37 p_37 => ?_)
          obtain ⟨rfl, rfl, rfl⟩ := Put_some p_37 (z := sqI k j) (by rw [show sqI k j = (0, 1) from if_neg h_28]; exact red_00)
          refine j_pop C dX5_start_40 rfl ?_
          first | refine n_iinc (n := 1) C dX5_start_41 rfl (by decide) ?_ | refine j_iinc C dX5_start_41 rfl rfl (by decide) ?_
          refine j_goto (tgt := 15) C dX5_start_44 (by decide) ?_
          refine ih_lp (j + 1) _ (by omega) (by omega) (hF1.set (by omega) (by omega)) (by rw [fr_setF, if_neg (by omega)]; exact hA1) (fun i hi => ?_)
          rw [fr_setF]
          split
          · next e => rw [show i = j by omega]
          · next e => exact hC i (by omega)
        · refine j_lconst (v := 1) C dX5_start_31 (by decide) ?_
          refine j_goto (tgt := 36) C dX5_start_32 (by decide) ?_
          refine j_lconst (v := 1) C dX5_start_36 (by decide) ?_
          have hF := hs4 j (by omega)
          refine g_cvI C vc_X5_34 (c_X2_put l G rg _ _ _ _ _ hF) ⟨Nat.le_of_ble_eq_true rfl, Nat.le_of_ble_eq_true rfl⟩ (hF) rfl rfl (Nat.le_of_ble_eq_true rfl) ⟨Nat.zero_le _, Nat.zero_le _⟩ dX5_start_37 (fun r_37 I_37 L_37 p_37 => ?_)
          obtain ⟨rfl, rfl, rfl⟩ := Put_some p_37 (z := sqI k j) (by rw [show sqI k j = (1, 1) from if_pos h_28]; exact red_10)
          refine j_pop C dX5_start_40 rfl ?_
          first | refine n_iinc (n := 1) C dX5_start_41 rfl (by decide) ?_ | refine j_iinc C dX5_start_41 rfl rfl (by decide) ?_
          refine j_goto (tgt := 15) C dX5_start_44 (by decide) ?_
          refine ih_lp (j + 1) _ (by omega) (by omega) (hF1.set (by omega) (by omega)) (by rw [fr_setF, if_neg (by omega)]; exact hA1) (fun i hi => ?_)
          rw [fr_setF]
          split
          · next e => rw [show i = j by omega]
          · next e => exact hC i (by omega)
  refine j_aload_n C dX5_start_0 rfl rfl ?_
  refine j_iload_n C dX5_start_1 rfl rfl ?_
  refine g_putI C (by assumption) fw_X5_26 (by rfl) rfl (fits_int _) dX5_start_2 ?_
  refine j_aload_n C dX5_start_5 rfl rfl ?_
  refine g_getR C (by assumption) fl_X5_12 (by rfl) dX5_start_6 ?_
  refine j_aload_n C dX5_start_9 rfl rfl ?_
  refine g_cvV C vc_X5_30 (c_X2_copy l G rg _ _ _ _ hs2 ha) ⟨Nat.le_of_ble_eq_true rfl, Nat.le_of_ble_eq_true rfl⟩ (hs2) rfl rfl (Nat.le_of_ble_eq_true rfl) ⟨Nat.zero_le _, Nat.zero_le _⟩ dX5_start_10 (fun I_10 L_10 p_10 => ?_)
  obtain ⟨rfl, rfl⟩ := p_10
  refine j_iconst (v := nI 0) C dX5_start_13 (by decide) ?_
  refine j_istore_n C dX5_start_14 rfl (by decide) ?_
  exact lp 6 0 _ (by omega) (by omega) (Fm.rf.set (by omega) (by omega)) (by rw [fr_setF, if_pos rfl]) (fun i hi => absurd hi (Nat.not_lt_zero i))

set_option maxHeartbeats 4000000 in
set_option maxRecDepth 20000 in
theorem c_X0_start (l : Launch) (G : GT) (rg : RgT) (I : II) (L : LL) (o n : Nat) (ho : isEl rg o) (hn : n < 5) : CtV l yX0_start cX0_start 3 none 1 G rg I L [.ref (gB G + o), .int (nI n)] (fun I1 L1 => Fm o (o + 79) I I1 ∧ L = L1 ∧ I1 o 6 = nI n ∧ I1 o 7 = nI 0 ∧ ∀ k, k < 5 → I1 (o + 29) k = b2i (decide (k ≤ n))) := by
  refine ctV_of [some (.ref (gB G + o)), some (.int (nI n)), none] rfl (Nat.le_of_ble_eq_true rfl) (by decide) ?_
  intro p e s m args below meth c C hr
  obtain ⟨ho1, ho2, ho3, ho4, ho5, ho6, ho7, ho8, ho9⟩ := id ho
  have lp : ∀ (fuel : Nat) (k : Nat) (I1 : II), 5 < fuel + k → k ≤ 5 → Fm o (o + 79) I I1 → I1 o 6 = nI n → I1 o 7 = nI 0 → (∀ i, i < k → I1 (o + 29) i = b2i (decide (i ≤ n))) → J p l e (rmD 1) s m args below meth c (MQ below (QV G rg (fun I1 L1 => Fm o (o + 79) I I1 ∧ L = L1 ∧ I1 o 6 = nI n ∧ I1 o 7 = nI 0 ∧ ∀ k, k < 5 → I1 (o + 29) k = b2i (decide (k ≤ n)))) args s 0 0 (rg_A G rg)) 3 G rg 0 0 I1 L 12 [some (.ref (gB G + o)), some (.int (nI n)), some (.int (nI k))] [] := by
    intro fuel
    induction fuel with
    | zero => intro k I1 h1 h2 hF1 hN hS hLf; exfalso; omega
    | succ fuel ih_lp =>
      intro k I1 h1 h2 hF1 hN hS hLf
      refine j_iload_n C dX0_start_12 rfl rfl ?_
      refine j_iconst (v := nI 5) C dX0_start_13 (by decide) ?_
      first | refine n_icmp_ge (tgt := 42) C (by omega) (by omega) dX0_start_14 (by decide) (fun h_14 => ?_) (fun h_14 => ?_) | refine j_icmp_ge (tgt := 42) C dX0_start_14 (by decide) (fun h_14 => ?_) (fun h_14 => ?_)
      · exact j_vret C hr dX0_start_42 (⟨hF1, rfl, hN, hS, fun k hk => hLf k (by omega)⟩)
      · refine j_aload_n C dX0_start_17 rfl rfl ?_
        refine g_getR C (by assumption) fl_X0_18 (by rfl) dX0_start_18 ?_
        refine j_iload_n C dX0_start_21 rfl rfl ?_
        refine j_iload_n C dX0_start_22 rfl rfl ?_
        refine j_aload_n C dX0_start_23 rfl rfl ?_
        refine g_getI C (by assumption) fl_X0_46 (by rfl) dX0_start_24 ?_
        refine t_i hN ?_
        first | refine n_icmp_gt (tgt := 34) C (by omega) (by omega) dX0_start_27 (by decide) (fun h_27 => ?_) (fun h_27 => ?_) | refine j_icmp_gt (tgt := 34) C dX0_start_27 (by decide) (fun h_27 => ?_) (fun h_27 => ?_)
        · refine j_iconst (v := nI 0) C dX0_start_34 (by decide) ?_
          refine g_zast (x := nI 0) C ho3 (by omega) (by decide) rfl dX0_start_35 ?_
          have hbk : nI 0 = b2i (decide (k ≤ n)) := by rw [decide_eq_false (by omega)]; rfl
          first | refine n_iinc (n := 1) C dX0_start_36 rfl (by decide) ?_ | refine j_iinc C dX0_start_36 rfl rfl (by decide) ?_
          refine j_goto (tgt := 12) C dX0_start_39 (by decide) ?_
          refine ih_lp (k + 1) _ (by omega) (by omega) (up2_I hF1 (by omega) (by omega)) (by rw [up2_ne _ (by omega)]; exact hN) (by rw [up2_ne _ (by omega)]; exact hS) (fun i hi => ?_)
          rw [up2_at, if_pos rfl]
          split
          · next e => rw [e]; exact hbk
          · next e => exact hLf i (by omega)
        · refine j_iconst (v := nI 1) C dX0_start_30 (by decide) ?_
          refine j_goto (tgt := 35) C dX0_start_31 (by decide) ?_
          refine g_zast (x := nI 1) C ho3 (by omega) (by decide) rfl dX0_start_35 ?_
          have hbk : nI 1 = b2i (decide (k ≤ n)) := by rw [decide_eq_true (by omega)]; rfl
          first | refine n_iinc (n := 1) C dX0_start_36 rfl (by decide) ?_ | refine j_iinc C dX0_start_36 rfl rfl (by decide) ?_
          refine j_goto (tgt := 12) C dX0_start_39 (by decide) ?_
          refine ih_lp (k + 1) _ (by omega) (by omega) (up2_I hF1 (by omega) (by omega)) (by rw [up2_ne _ (by omega)]; exact hN) (by rw [up2_ne _ (by omega)]; exact hS) (fun i hi => ?_)
          rw [up2_at, if_pos rfl]
          split
          · next e => rw [e]; exact hbk
          · next e => exact hLf i (by omega)
  refine j_aload_n C dX0_start_0 rfl rfl ?_
  refine j_iload_n C dX0_start_1 rfl rfl ?_
  refine g_putI C (by assumption) fw_X0_46 (by rfl) rfl (fits_int _) dX0_start_2 ?_
  refine j_aload_n C dX0_start_5 rfl rfl ?_
  refine j_iconst (v := nI 0) C dX0_start_6 (by decide) ?_
  refine g_putI C (by assumption) fw_X0_50 (by rfl) rfl (fits_int _) dX0_start_7 ?_
  refine j_iconst (v := nI 0) C dX0_start_10 (by decide) ?_
  refine j_istore_n C dX0_start_11 rfl (by decide) ?_
  exact lp 6 0 _ (by omega) (by omega) (up2_I (up2_I Fm.rf (by omega) (by omega)) (by omega) (by omega)) (by rw [up2_at, up2_at]; simp) (by rw [up2_at]; simp) (fun i hi => absurd hi (Nat.not_lt_zero i))

set_option maxHeartbeats 4000000 in
set_option maxRecDepth 20000 in
theorem c_X0_firstLeftOfSign (l : Launch) (G : GT) (rg : RgT) (I : II) (L : LL) (o n : Nat) (sg : Int32) (E : ES) (ho : isEl rg o) (hn : n < 5) (hR : RelC n o I L E) : CtI l yX0_firstLeftOfSign cX0_firstLeftOfSign 4 (some FieldType.int) 3 G rg I L [.ref (gB G + o), .int sg] (fun r I1 L1 => I = I1 ∧ L = L1 ∧ match ffo (isSg sg E) n (n + 1) with | some k => r = nI k | none => r = -1) := by
  refine ctI_of [some (.ref (gB G + o)), some (.int sg), none, none] rfl (Nat.le_of_ble_eq_true rfl) (by decide) ?_
  intro p e s m args below meth c C hr
  obtain ⟨ho1, ho2, ho3, ho4, ho5, ho6, ho7, ho8, ho9⟩ := id ho
  obtain ⟨hN, hS, hS5, hM, hLf, hSq⟩ := id hR
  have lp : ∀ (fuel : Nat) (t : Nat), n + 1 < fuel + t → t ≤ n + 1 → ffo (isSg sg E) n (n + 1 - t) = ffo (isSg sg E) n (n + 1) → J p l e (rmD 3) s m args below meth c (MQ below (QI G rg (fun r I1 L1 => I = I1 ∧ L = L1 ∧ match ffo (isSg sg E) n (n + 1) with | some k => r = nI k | none => r = -1)) args s 0 0 (rg_A G rg)) 4 G rg 0 0 I L 2 [some (.ref (gB G + o)), some (.int sg), some (.int (nI t)), none] [] := by
    intro fuel
    induction fuel with
    | zero => intro t h1 h2 hf; exfalso; omega
    | succ fuel ih_lp =>
      intro t h1 h2 hf
      refine j_iload_n C dX0_firstLeftOfSign_2 rfl rfl ?_
      refine j_aload_n C dX0_firstLeftOfSign_3 rfl rfl ?_
      refine g_getI C (by assumption) fl_X0_46 (by rfl) dX0_firstLeftOfSign_4 ?_
      refine t_i hN ?_
      first | refine n_icmp_gt (tgt := 52) C (by omega) (by omega) dX0_firstLeftOfSign_7 (by decide) (fun h_7 => ?_) (fun h_7 => ?_) | refine j_icmp_gt (tgt := 52) C dX0_firstLeftOfSign_7 (by decide) (fun h_7 => ?_) (fun h_7 => ?_)
      · refine j_iconst (v := (-1)) C dX0_firstLeftOfSign_52 (by decide) ?_
        exact j_iret C hr dX0_firstLeftOfSign_53 (⟨rfl, rfl, by rw [← hf, ffo_e (by omega)]⟩)
      · refine j_iload_n C dX0_firstLeftOfSign_10 rfl rfl ?_
        refine j_aload_n C dX0_firstLeftOfSign_11 rfl rfl ?_
        refine g_getI C (by assumption) fl_X0_46 (by rfl) dX0_firstLeftOfSign_12 ?_
        refine t_i hN ?_
        refine j_csI C sc_X0_87 (c_X6_inOrder l G rg _ _ _ _ (by omega) (by omega)) ⟨Nat.le_of_ble_eq_true rfl, Nat.le_of_ble_eq_true rfl⟩ rfl rfl (Nat.le_of_ble_eq_true rfl) ⟨Nat.zero_le _, Nat.zero_le _⟩ dX0_firstLeftOfSign_15 (fun r_15 I_15 L_15 p_15 => ?_)
        obtain ⟨rfl, rfl, rfl⟩ := p_15
        refine j_istore_n C dX0_firstLeftOfSign_18 rfl (by decide) ?_
        refine j_aload_n C dX0_firstLeftOfSign_19 rfl rfl ?_
        refine g_getR C (by assumption) fl_X0_18 (by rfl) dX0_firstLeftOfSign_20 ?_
        refine j_iload_n C dX0_firstLeftOfSign_23 rfl rfl ?_
        refine g_zald C (ho3) (by have := ordn_le n t; omega) (by decide) dX0_firstLeftOfSign_24 ?_
        have hk5 := ordn_le n t
        refine t_i (hLf (ordn n t) (by omega)) ?_
        first | refine n_if_eq (tgt := 46) C dX0_firstLeftOfSign_25 (by decide) (fun h_25 => ?_) (fun h_25 => ?_) | refine j_if_eq (tgt := 46) C dX0_firstLeftOfSign_25 (by decide) (fun h_25 => ?_) (fun h_25 => ?_)
        · first | refine n_iinc (n := 1) C dX0_firstLeftOfSign_46 rfl (by decide) ?_ | refine j_iinc C dX0_firstLeftOfSign_46 rfl rfl (by decide) ?_
          refine j_goto (tgt := 2) C dX0_firstLeftOfSign_49 (by decide) ?_
          refine j_rm 3 ?_
          exact ih_lp (t + 1) (by omega) (by omega) (by rw [← hf, ffo_f (t := t) (by omega) (by unfold isSg; first | (rw [h_25]; rfl) | (rw [h_25, decide_eq_false h_41]; rfl))])
        · refine j_aload_n C dX0_firstLeftOfSign_28 rfl rfl ?_
          refine g_getR C (by assumption) fl_X0_12 (by rfl) dX0_firstLeftOfSign_29 ?_
          refine j_iload_n C dX0_firstLeftOfSign_32 rfl rfl ?_
          refine j_iload_n C dX0_firstLeftOfSign_33 rfl rfl ?_
          refine g_cvR C vc_X0_91 (c_X3_at l G rg _ _ _ _ _ ho2 (by omega) (by omega)) ⟨Nat.le_of_ble_eq_true rfl, Nat.le_of_ble_eq_true rfl⟩ (ho2.1) rfl rfl (Nat.le_of_ble_eq_true rfl) ⟨Nat.zero_le _, Nat.zero_le _⟩ dX0_firstLeftOfSign_34 (fun r_34 I_34 L_34 p_34 => ?_)
          obtain ⟨rfl, rfl, rfl⟩ := p_34
          have hF : isF rg (o + 1 + 2 + (ordn n t * 5 + ordn n t)) := ho2.2.2 _ (by omega)
          refine g_cvI C vc_X0_95 (c_X2_sign l G rg _ _ _ hF) ⟨Nat.le_of_ble_eq_true rfl, Nat.le_of_ble_eq_true rfl⟩ (hF) rfl rfl (Nat.le_of_ble_eq_true rfl) ⟨Nat.zero_le _, Nat.zero_le _⟩ dX0_firstLeftOfSign_37 (fun r_37 I_37 L_37 p_37 => ?_)
          obtain ⟨rfl, rfl, rfl⟩ := p_37
          have hv : L (o + 1 + 2 + (ordn n t * 5 + ordn n t)) 0 = (eM E (ordn n t) (ordn n t)).1 := congrArg Prod.fst (hM (ordn n t) (ordn n t) (by omega) (by omega))
          rw [hv]
          refine j_iload_n C dX0_firstLeftOfSign_40 rfl rfl ?_
          refine j_icmp_ne (tgt := 46) C dX0_firstLeftOfSign_41 (by decide) (fun h_41 => ?_) (fun h_41 => ?_)
          · first | refine n_iinc (n := 1) C dX0_firstLeftOfSign_46 rfl (by decide) ?_ | refine j_iinc C dX0_firstLeftOfSign_46 rfl rfl (by decide) ?_
            refine j_goto (tgt := 2) C dX0_firstLeftOfSign_49 (by decide) ?_
            refine j_rm 3 ?_
            exact ih_lp (t + 1) (by omega) (by omega) (by rw [← hf, ffo_f (t := t) (by omega) (by unfold isSg; first | (rw [h_25]; rfl) | (rw [h_25, decide_eq_false h_41]; rfl))])
          · refine j_iload_n C dX0_firstLeftOfSign_44 rfl rfl ?_
            exact j_iret C hr dX0_firstLeftOfSign_45 (⟨rfl, rfl, by rw [← hf, ffo_t (by omega) (by unfold isSg; rw [h_25, h_41]; simp)]⟩)
  refine j_iconst (v := nI 0) C dX0_firstLeftOfSign_0 (by decide) ?_
  refine j_istore_n C dX0_firstLeftOfSign_1 rfl (by decide) ?_
  exact lp (n + 2) 0 (by omega) (by omega) rfl

set_option maxHeartbeats 4000000 in
set_option maxRecDepth 20000 in
theorem c_X0_findPair (l : Launch) (G : GT) (rg : RgT) (I : II) (L : LL) (o n : Nat) (E : ES) (ho : isEl rg o) (hn : n < 5) (hR : RelC n o I L E) : CtI l yX0_findPair cX0_findPair 5 (some FieldType.boolean) 3 G rg I L [.ref (gB G + o)] (fun r I1 L1 => L = L1 ∧ match ffp (isPr E) n (n + 1) with | some (i, j) => r = b2i true ∧ up2 (up2 I o 8 (nI i)) o 9 (nI j) = I1 | none => r = b2i false ∧ I = I1) := by
  refine ctI_of [some (.ref (gB G + o)), none, none, none, none] rfl (Nat.le_of_ble_eq_true rfl) (by decide) ?_
  intro p e s m args below meth c C hr
  obtain ⟨ho1, ho2, ho3, ho4, ho5, ho6, ho7, ho8, ho9⟩ := id ho
  obtain ⟨hN, hS, hS5, hM, hLf, hSq⟩ := id hR
  have lp : ∀ (fuel : Nat) (t : Nat), n + 1 < fuel + t → t ≤ n + 1 → ffp (isPr E) n (n + 1 - t) = ffp (isPr E) n (n + 1) → J p l e (rmD 3) s m args below meth c (MQ below (QI G rg (fun r I1 L1 => L = L1 ∧ match ffp (isPr E) n (n + 1) with | some (i, j) => r = b2i true ∧ up2 (up2 I o 8 (nI i)) o 9 (nI j) = I1 | none => r = b2i false ∧ I = I1)) args s 0 0 (rg_A G rg)) 5 G rg 0 0 I L 2 [some (.ref (gB G + o)), some (.int (nI t)), none, none, none] [] := by
    intro fuel
    induction fuel with
    | zero => intro t h1 h2 hf; exfalso; omega
    | succ fuel ih_lp =>
      intro t h1 h2 hf
      refine j_iload_n C dX0_findPair_2 rfl rfl ?_
      refine j_aload_n C dX0_findPair_3 rfl rfl ?_
      refine g_getI C (by assumption) fl_X0_46 (by rfl) dX0_findPair_4 ?_
      refine t_i hN ?_
      first | refine n_icmp_gt (tgt := 101) C (by omega) (by omega) dX0_findPair_7 (by decide) (fun h_7 => ?_) (fun h_7 => ?_) | refine j_icmp_gt (tgt := 101) C dX0_findPair_7 (by decide) (fun h_7 => ?_) (fun h_7 => ?_)
      · refine j_iconst (v := nI 0) C dX0_findPair_101 (by decide) ?_
        exact j_zret C hr (by first | rfl | exact b2i_n _ rfl) dX0_findPair_102 (⟨rfl, by rw [← hf, ffp_e (by omega)]; exact ⟨rfl, rfl⟩⟩)
      · refine j_iload_n C dX0_findPair_10 rfl rfl ?_
        refine j_aload_n C dX0_findPair_11 rfl rfl ?_
        refine g_getI C (by assumption) fl_X0_46 (by rfl) dX0_findPair_12 ?_
        refine t_i hN ?_
        refine j_csI C sc_X0_87 (c_X6_inOrder l G rg _ _ _ _ (by omega) (by omega)) ⟨Nat.le_of_ble_eq_true rfl, Nat.le_of_ble_eq_true rfl⟩ rfl rfl (Nat.le_of_ble_eq_true rfl) ⟨Nat.zero_le _, Nat.zero_le _⟩ dX0_findPair_15 (fun r_15 I_15 L_15 p_15 => ?_)
        obtain ⟨rfl, rfl, rfl⟩ := p_15
        refine j_istore_n C dX0_findPair_18 rfl (by decide) ?_
        refine j_iload_n C dX0_findPair_19 rfl rfl ?_
        refine j_iconst (v := nI 1) C dX0_findPair_20 (by decide) ?_
        first | refine n_iadd C dX0_findPair_21 ?_ | refine j_iadd C dX0_findPair_21 ?_
        refine j_istore_n C dX0_findPair_22 rfl (by decide) ?_
        have lq : ∀ (fuel : Nat) (w : Nat), n + 1 < fuel + w → w ≤ n + 1 → ffo (isPr E (ordn n t)) n (n + 1 - w) = ffo (isPr E (ordn n t)) n (n + 1 - (t + 1)) → J p l e (rmD 3) s m args below meth c (MQ below (QI G rg (fun r I1 L1 => L = L1 ∧ match ffp (isPr E) n (n + 1) with | some (i, j) => r = b2i true ∧ up2 (up2 I o 8 (nI i)) o 9 (nI j) = I1 | none => r = b2i false ∧ I = I1)) args s 0 0 (rg_A G rg)) 5 G rg 0 0 I L 23 [some (.ref (gB G + o)), some (.int (nI t)), some (.int (nI (ordn n t))), some (.int (nI w)), none] [] := by
          intro fuel
          induction fuel with
          | zero => intro w q1 q2 hg; exfalso; omega
          | succ fuel ih_lq =>
            intro w q1 q2 hg
            refine j_iload_n C dX0_findPair_23 rfl rfl ?_
            refine j_aload_n C dX0_findPair_24 rfl rfl ?_
            refine g_getI C (by assumption) fl_X0_46 (by rfl) dX0_findPair_25 ?_
            refine t_i hN ?_
            first | refine n_icmp_gt (tgt := 95) C (by omega) (by omega) dX0_findPair_28 (by decide) (fun h_28 => ?_) (fun h_28 => ?_) | refine j_icmp_gt (tgt := 95) C dX0_findPair_28 (by decide) (fun h_28 => ?_) (fun h_28 => ?_)
            · first | refine n_iinc (n := 1) C dX0_findPair_95 rfl (by decide) ?_ | refine j_iinc C dX0_findPair_95 rfl rfl (by decide) ?_
              refine j_goto (tgt := 2) C dX0_findPair_98 (by decide) ?_
              refine j_rm 2 ?_
              refine j_rm 3 ?_
              exact ih_lp (t + 1) (by omega) (by omega) (by rw [← hf, ffp_f (t := t) (by omega) (by rw [show n - t = n + 1 - (t + 1) by omega, ← hg, ffo_e (by omega)])])
            · refine j_iload_n C dX0_findPair_31 rfl rfl ?_
              refine j_aload_n C dX0_findPair_32 rfl rfl ?_
              refine g_getI C (by assumption) fl_X0_46 (by rfl) dX0_findPair_33 ?_
              refine t_i hN ?_
              refine j_csI C sc_X0_87 (c_X6_inOrder l G rg _ _ _ _ (by omega) (by omega)) ⟨Nat.le_of_ble_eq_true rfl, Nat.le_of_ble_eq_true rfl⟩ rfl rfl (Nat.le_of_ble_eq_true rfl) ⟨Nat.zero_le _, Nat.zero_le _⟩ dX0_findPair_36 (fun r_36 I_36 L_36 p_36 => ?_)
              obtain ⟨rfl, rfl, rfl⟩ := p_36
              refine j_istore C dX0_findPair_39 (by decide) ?_
              refine j_aload_n C dX0_findPair_41 rfl rfl ?_
              refine g_getR C (by assumption) fl_X0_18 (by rfl) dX0_findPair_42 ?_
              refine j_iload_n C dX0_findPair_45 rfl rfl ?_
              refine g_zald C (ho3) (by have := ordn_le n t; omega) (by decide) dX0_findPair_46 ?_
              have hk5 := ordn_le n t
              refine t_i (hLf (ordn n t) (by omega)) ?_
              first | refine n_if_eq (tgt := 89) C dX0_findPair_47 (by decide) (fun h_47 => ?_) (fun h_47 => ?_) | refine j_if_eq (tgt := 89) C dX0_findPair_47 (by decide) (fun h_47 => ?_) (fun h_47 => ?_)
              · first | refine n_iinc (n := 1) C dX0_findPair_89 rfl (by decide) ?_ | refine j_iinc C dX0_findPair_89 rfl rfl (by decide) ?_
                refine j_goto (tgt := 23) C dX0_findPair_92 (by decide) ?_
                refine j_rm 4 ?_
                exact ih_lq (w + 1) (by omega) (by omega) (by rw [← hg, ffo_f (t := w) (by omega) (by unfold isPr; first | (rw [h_47]; rfl) | (rw [h_47, h_57]; rfl) | (rw [h_47, h_57, decide_eq_false (fun q => q h_73)]; rfl))])
              · refine j_aload_n C dX0_findPair_50 rfl rfl ?_
                refine g_getR C (by assumption) fl_X0_18 (by rfl) dX0_findPair_51 ?_
                refine j_iload C dX0_findPair_54 rfl ?_
                refine g_zald C (ho3) (by have := ordn_le n w; omega) (by decide) dX0_findPair_56 ?_
                have hk6 := ordn_le n w
                refine t_i (hLf (ordn n w) (by omega)) ?_
                first | refine n_if_eq (tgt := 89) C dX0_findPair_57 (by decide) (fun h_57 => ?_) (fun h_57 => ?_) | refine j_if_eq (tgt := 89) C dX0_findPair_57 (by decide) (fun h_57 => ?_) (fun h_57 => ?_)
                · first | refine n_iinc (n := 1) C dX0_findPair_89 rfl (by decide) ?_ | refine j_iinc C dX0_findPair_89 rfl rfl (by decide) ?_
                  refine j_goto (tgt := 23) C dX0_findPair_92 (by decide) ?_
                  refine j_rm 4 ?_
                  exact ih_lq (w + 1) (by omega) (by omega) (by rw [← hg, ffo_f (t := w) (by omega) (by unfold isPr; first | (rw [h_47]; rfl) | (rw [h_47, h_57]; rfl) | (rw [h_47, h_57, decide_eq_false (fun q => q h_73)]; rfl))])
                · refine j_aload_n C dX0_findPair_60 rfl rfl ?_
                  refine g_getR C (by assumption) fl_X0_12 (by rfl) dX0_findPair_61 ?_
                  refine j_iload_n C dX0_findPair_64 rfl rfl ?_
                  refine j_iload C dX0_findPair_65 rfl ?_
                  refine g_cvR C vc_X0_91 (c_X3_at l G rg _ _ _ _ _ ho2 (by omega) (by omega)) ⟨Nat.le_of_ble_eq_true rfl, Nat.le_of_ble_eq_true rfl⟩ (ho2.1) rfl rfl (Nat.le_of_ble_eq_true rfl) ⟨Nat.zero_le _, Nat.zero_le _⟩ dX0_findPair_67 (fun r_67 I_67 L_67 p_67 => ?_)
                  obtain ⟨rfl, rfl, rfl⟩ := p_67
                  have hF : isF rg (o + 1 + 2 + (ordn n t * 5 + ordn n w)) := ho2.2.2 _ (by omega)
                  refine g_cvI C vc_X0_95 (c_X2_sign l G rg _ _ _ hF) ⟨Nat.le_of_ble_eq_true rfl, Nat.le_of_ble_eq_true rfl⟩ (hF) rfl rfl (Nat.le_of_ble_eq_true rfl) ⟨Nat.zero_le _, Nat.zero_le _⟩ dX0_findPair_70 (fun r_70 I_70 L_70 p_70 => ?_)
                  obtain ⟨rfl, rfl, rfl⟩ := p_70
                  have hv : L (o + 1 + 2 + (ordn n t * 5 + ordn n w)) 0 = (eM E (ordn n t) (ordn n w)).1 := congrArg Prod.fst (hM (ordn n t) (ordn n w) (by omega) (by omega))
                  rw [hv]
                  refine j_if_eq (tgt := 89) C dX0_findPair_73 (by decide) (fun h_73 => ?_) (fun h_73 => ?_)
                  · first | refine n_iinc (n := 1) C dX0_findPair_89 rfl (by decide) ?_ | refine j_iinc C dX0_findPair_89 rfl rfl (by decide) ?_
                    refine j_goto (tgt := 23) C dX0_findPair_92 (by decide) ?_
                    refine j_rm 4 ?_
                    exact ih_lq (w + 1) (by omega) (by omega) (by rw [← hg, ffo_f (t := w) (by omega) (by unfold isPr; first | (rw [h_47]; rfl) | (rw [h_47, h_57]; rfl) | (rw [h_47, h_57, decide_eq_false (fun q => q h_73)]; rfl))])
                  · refine j_aload_n C dX0_findPair_76 rfl rfl ?_
                    refine j_iload_n C dX0_findPair_77 rfl rfl ?_
                    refine g_putI C (by assumption) fw_X0_53 (by rfl) rfl (fits_int _) dX0_findPair_78 ?_
                    refine j_aload_n C dX0_findPair_81 rfl rfl ?_
                    refine j_iload C dX0_findPair_82 rfl ?_
                    refine g_putI C (by assumption) fw_X0_56 (by rfl) rfl (fits_int _) dX0_findPair_84 ?_
                    refine j_iconst (v := nI 1) C dX0_findPair_87 (by decide) ?_
                    exact j_zret C hr (by first | rfl | exact b2i_n _ rfl) dX0_findPair_88 (⟨rfl, by rw [← hf, ffp_t (t := t) (j := ordn n w) (by omega) (by rw [show n - t = n + 1 - (t + 1) by omega, ← hg, ffo_t (by omega) (by unfold isPr; rw [h_47, h_57, decide_eq_true h_73]; rfl)])]; exact ⟨rfl, rfl⟩⟩)
        exact lq (n + 2) (t + 1) (by omega) (by omega) rfl
  refine j_iconst (v := nI 0) C dX0_findPair_0 (by decide) ?_
  refine j_istore_n C dX0_findPair_1 rfl (by decide) ?_
  exact lp (n + 2) 0 (by omega) (by omega) rfl
end
section
/-! ===== pivots over the class's cells ===== -/
theorem nI_m1 {k : Nat} (h : k < 2 ^ 31) : ¬ nI k = -1 := fun q => by
  have h1 := congrArg Int32.toInt q
  rw [nI_toInt h, show (-1 : Int32).toInt = -1 from by decide] at h1
  omega
theorem RelC_mid {n o k : Nat} {I I2 : II} {L L1 : LL} {E : ES} (hR : RelC n o I L E) (hn : n < 5) (hk : k ≤ n) (hS : eS E < 5) (h6 : I2 o 6 = nI n) (h7 : I2 o 7 = nI (eS E + 1)) (hl : ∀ j, j < 5 → I2 (o + 29) j = b2i (va_up (eL E) k false j)) (hp : I2 (o + 39 + 8 * eS E) 2 = nI k) (hpo : ∀ s, s < eS E → I2 (o + 39 + 8 * s) 2 = I (o + 39 + 8 * s) 2) (hF : Fm (o + 39 + 8 * eS E + 1) (o + 39 + 8 * eS E + 8) L L1) (hw : fr L1 (o + 39 + 8 * eS E + 1) = eM E k k) (hr : ∀ j, j < 5 → fr L1 (o + 39 + 8 * eS E + 3 + j) = rwF E k j) : RelC n o I2 L1 (midE E k) := by
  obtain ⟨a1, a2, a3, a4, a5, a6⟩ := hR
  refine ⟨h6, h7, show eS E + 1 ≤ 5 by omega, fun i j hi hj => ?_, hl, fun s hs => ?_⟩
  · rw [hF.fr (by omega)]; exact a4 i j hi hj
  · have hs' : s < eS E + 1 := hs
    by_cases e : s = eS E
    · subst e
      refine ⟨?_, ?_, ?_, fun j hj => ?_⟩
      · rw [hp]; show nI k = nI (va_up (eP E) (eS E) k (eS E)); rw [va_up_self]
      · show va_up (eP E) (eS E) k (eS E) ≤ n; rw [va_up_self]; exact hk
      · show _ = va_up (eW E) (eS E) (eM E k k) (eS E); rw [va_up_self, show o + 40 + 8 * eS E = o + 39 + 8 * eS E + 1 by omega]; exact hw
      · show _ = va_up (eN E) (eS E) (rwF E k) (eS E) j; rw [va_up_self, show o + 42 + 8 * eS E + j = o + 39 + 8 * eS E + 3 + j by omega]; exact hr j hj
    · obtain ⟨b1, b2, b3, b4⟩ := a6 s (by omega)
      refine ⟨?_, ?_, ?_, fun j hj => ?_⟩
      · rw [hpo s (by omega), b1]; show nI (eP E s) = nI (va_up (eP E) (eS E) k s); rw [va_up_ne _ _ e]
      · show va_up (eP E) (eS E) k s ≤ n; rw [va_up_ne _ _ e]; exact b2
      · show _ = va_up (eW E) (eS E) (eM E k k) s; rw [va_up_ne _ _ e, hF.fr (by omega)]; exact b3
      · show _ = va_up (eN E) (eS E) (rwF E k) s j; rw [va_up_ne _ _ e, hF.fr (by omega)]; exact b4 j hj
theorem rwO_f {E : ES} {k j : Nat} (h : va_up (eL E) k false j = false) : rwO E k j = some (sqI k j) := by
  unfold rwO
  rw [if_neg]
  · rfl
  · intro q
    rw [va_up_ne _ _ q.2] at h
    rw [h] at q
    cases q.1
theorem rwO_t {E : ES} {k j : Nat} (h : va_up (eL E) k false j = true) : rwO E k j = fDiv (eM E k j) (eM E k k) := by
  unfold rwO
  rw [if_pos]
  by_cases e : j = k
  · subst e; rw [va_up_self] at h; cases h
  · rw [va_up_ne _ _ e] at h; exact ⟨h, e⟩
theorem rwF_of {E : ES} {k j : Nat} {z : Fr} (h : rwO E k j = some z) : rwF E k j = z := by unfold rwF; rw [h]; rfl
theorem ordn_posn {n i : Nat} (h : i ≤ n) : ordn n (posn n i) = i := by
  unfold ordn posn
  split <;> split at * <;> omega
theorem nwO_comm {n : Nat} {E : ES} {k i j : Nat} (hi : i ≤ n) (hj : j ≤ n) : nwO n E k i j = nwO n E k j i := by
  unfold nwO
  by_cases h1 : posn n i ≤ posn n j
  · by_cases h2 : posn n j ≤ posn n i
    · have : i = j := by
        rw [← ordn_posn hi, ← ordn_posn hj, Nat.le_antisymm h1 h2]
      rw [this]
    · rw [if_pos h1, if_neg h2]
  · rw [if_neg h1, if_pos (by omega)]
theorem nwO_ord {n : Nat} {E : ES} {k t w : Nat} (h : t ≤ w) (hw : w ≤ n) : nwO n E k (ordn n t) (ordn n w) = cpO E k (ordn n t) (ordn n w) := by
  unfold nwO
  rw [posn_ordn (by omega), posn_ordn hw, if_pos h]
theorem posn_le {n i : Nat} (h : i ≤ n) : posn n i ≤ n := by unfold posn; split <;> omega
/-- the matrix, lessened up to the places t w of THE ORDER -/
def NLs (n k : Nat) (E : ES) (o : Nat) (L : LL) (t w : Nat) : Prop := ∀ a b, a ≤ n → b ≤ n → (eL E a = true → eL E b = true → prc t w (posn n a) (posn n b) → nwO n E k a b = some (fr L (o + 3 + (a * 5 + b)))) ∧ (¬ (eL E a = true ∧ eL E b = true ∧ prc t w (posn n a) (posn n b)) → fr L (o + 3 + (a * 5 + b)) = eM E a b)
theorem NLs_0 {n k : Nat} {E : ES} {o : Nat} {L : LL} (h : ∀ i j, i ≤ n → j ≤ n → fr L (o + 3 + (i * 5 + j)) = eM E i j) : NLs n k E o L 0 0 := fun a b ha hb => ⟨fun _ _ q => by unfold prc at q; omega, fun _ => h a b ha hb⟩
theorem NLs_n {n k : Nat} {E : ES} {o : Nat} {L : LL} {t w : Nat} (h : NLs n k E o L t w) (hw : n < w) : NLs n k E o L (t + 1) (t + 1) := fun a b ha hb => by
  have h1 := posn_le ha; have h2 := posn_le hb
  exact ⟨fun q1 q2 q => (h a b ha hb).1 q1 q2 (by unfold prc at q ⊢; omega), fun q => (h a b ha hb).2 (fun z => q ⟨z.1, z.2.1, by have := z.2.2; unfold prc at this ⊢; omega⟩)⟩
theorem NLs_skip {n k : Nat} {E : ES} {o : Nat} {L : LL} {t w : Nat} (h : NLs n k E o L t w) (htw : t ≤ w) (hw : w ≤ n) (hl : ¬ (eL E (ordn n t) = true ∧ eL E (ordn n w) = true)) : NLs n k E o L t (w + 1) := fun a b ha hb => by
  have key : eL E a = true → eL E b = true → prc t (w + 1) (posn n a) (posn n b) → prc t w (posn n a) (posn n b) := by
    intro q1 q2 q
    by_cases e : (posn n a = t ∧ posn n b = w) ∨ (posn n a = w ∧ posn n b = t)
    · exfalso
      apply hl
      rcases e with ⟨e1, e2⟩ | ⟨e1, e2⟩
      · rw [← e1, ← e2, ordn_posn ha, ordn_posn hb]; exact ⟨q1, q2⟩
      · rw [← e1, ← e2, ordn_posn ha, ordn_posn hb]; exact ⟨q2, q1⟩
    · unfold prc at q ⊢
      omega
  refine ⟨fun q1 q2 q => (h a b ha hb).1 q1 q2 (key q1 q2 q), fun q => (h a b ha hb).2 (fun z => q ⟨z.1, z.2.1, by have := z.2.2; unfold prc at this ⊢; omega⟩)⟩
theorem NLs_s {n k : Nat} {E : ES} {o : Nat} {L L4 : LL} {t w : Nat} {z : Fr} (h : NLs n k E o L t w) (hn : n < 5) (htw : t ≤ w) (hw : w ≤ n) (hz : cpO E k (ordn n t) (ordn n w) = some z) (h1 : fr L4 (o + 3 + (ordn n t * 5 + ordn n w)) = z) (h2 : fr L4 (o + 3 + (ordn n w * 5 + ordn n t)) = z) (h3 : ∀ q, q < 25 → q ≠ ordn n t * 5 + ordn n w → q ≠ ordn n w * 5 + ordn n t → fr L4 (o + 3 + q) = fr L (o + 3 + q)) (hl1 : eL E (ordn n t) = true) (hl2 : eL E (ordn n w) = true) : NLs n k E o L4 t (w + 1) := by
  intro a b ha hb
  have o1 := ordn_le n t; have o2 := ordn_le n w
  have hq := nwO_ord (E := E) (k := k) htw hw
  by_cases e1 : a = ordn n t ∧ b = ordn n w
  · obtain ⟨rfl, rfl⟩ := e1
    refine ⟨fun _ _ _ => by rw [h1, hq]; exact hz, fun q => absurd ⟨hl1, hl2, ?_⟩ q⟩
    rw [posn_ordn (by omega), posn_ordn hw]
    unfold prc; omega
  · by_cases e2 : a = ordn n w ∧ b = ordn n t
    · obtain ⟨rfl, rfl⟩ := e2
      refine ⟨fun _ _ _ => by rw [h2, nwO_comm ha hb, hq]; exact hz, fun q => absurd ⟨hl2, hl1, ?_⟩ q⟩
      rw [posn_ordn (by omega), posn_ordn (show t ≤ n by omega)]
      unfold prc; omega
    · have e1' : ¬ (posn n a = t ∧ posn n b = w) := fun q => e1 ⟨by rw [← q.1, ordn_posn ha], by rw [← q.2, ordn_posn hb]⟩
      have e2' : ¬ (posn n a = w ∧ posn n b = t) := fun q => e2 ⟨by rw [← q.1, ordn_posn ha], by rw [← q.2, ordn_posn hb]⟩
      rw [h3 (a * 5 + b) (by omega) (by omega) (by omega)]
      refine ⟨fun q1 q2 q => (h a b ha hb).1 q1 q2 (by unfold prc at q ⊢; omega), fun q => (h a b ha hb).2 (fun z => q ⟨z.1, z.2.1, by have := z.2.2; unfold prc at this ⊢; omega⟩)⟩
theorem RelC_ls {n o k : Nat} {I : II} {L L1 : LL} {E : ES} (hR : RelC n o I L E) (hn : n < 5) (hF : Fm (o + 3) (o + 38) L L1) (hT : NLs n k E o L1 (n + 1) (n + 1)) : lsOk n E k ∧ RelC n o I L1 (lsE n E k) := by
  obtain ⟨a1, a2, a3, a4, a5, a6⟩ := hR
  have key : ∀ i j, i ≤ n → j ≤ n → eL E i = true → eL E j = true → nwO n E k i j = some (fr L1 (o + 3 + (i * 5 + j))) := fun i j hi hj h1 h2 => (hT i j hi hj).1 h1 h2 (by have := posn_le hi; have := posn_le hj; unfold prc; omega)
  refine ⟨(fun i j hi hj h1 h2 q => by rw [key i j hi hj h1 h2] at q; cases q), a1, a2, a3, fun i j hi hj => ?_, a5, fun s hs => ?_⟩
  · show _ = if eL E i = true ∧ eL E j = true then (nwO n E k i j).getD (0, 1) else eM E i j
    by_cases h : eL E i = true ∧ eL E j = true
    · rw [if_pos h, key i j hi hj h.1 h.2]; rfl
    · rw [if_neg h]; exact (hT i j hi hj).2 (fun q => h ⟨q.1, q.2.1⟩)
  · have hs' : s < eS E := hs
    obtain ⟨b1, b2, b3, b4⟩ := a6 s hs
    exact ⟨b1, b2, (hF.fr (by omega)).trans b3, fun j hj => (hF.fr (by omega)).trans (b4 j hj)⟩
/-- what an elimination keeps -/
def EI (n : Nat) (E : ES) : Prop := (∀ j, n < j → eL E j = false) ∧ eS E + cntL (eL E) (n + 1) = n + 1
def E0 (n : Nat) (M : Nat → Nat → Fr) : ES := (M, fun j => decide (j ≤ n), 0, fun _ => 0, fun _ => (0, 1), fun _ _ => (0, 1), fun _ _ => false)
theorem EI_0 (n : Nat) (M : Nat → Nat → Fr) : EI n (E0 n M) := ⟨fun j hj => decide_eq_false (by omega), by
  show 0 + cntL (fun j => decide (j ≤ n)) (n + 1) = n + 1
  rw [cntL_all (fun i hi => decide_eq_true (by omega)), Nat.zero_add]⟩
theorem EI_s {n k : Nat} {E E' : ES} (h : EI n E) (hk : k ≤ n) (hl : eL E k = true) (h2 : pvO n E k = some E') : EI n E' := by
  obtain ⟨e1, e2⟩ := pvO_L h2
  refine ⟨fun j hj => by rw [e1, va_up_ne _ _ (by omega)]; exact h.1 j hj, ?_⟩
  rw [e1, e2]
  have := cntL_up (eL E) hl (show k < n + 1 by omega)
  have := h.2
  omega
theorem EI_lt {n k : Nat} {E : ES} (h : EI n E) (hk : k ≤ n) (hl : eL E k = true) : eS E ≤ n := by
  have := cntL_up (eL E) hl (show k < n + 1 by omega)
  have := h.2
  omega
theorem isSg_L {sg : Int32} {E : ES} {k : Nat} (h : isSg sg E k = true) : eL E k = true ∧ lg_cmp (eM E k k).1 0 = sg := by
  unfold isSg at h
  rw [Bool.and_eq_true, decide_eq_true_eq] at h
  exact h
theorem pvO_some {n k : Nat} {E : ES} (h1 : rwOk n E k) (h2 : lsOk n (midE E k) k) : pvO n E k = some (lsE n (midE E k) k) := cif_t ⟨h1, h2⟩
theorem pvO_none1 {n k : Nat} {E : ES} (h1 : ¬ rwOk n E k) : pvO n E k = none := cif_f (fun q => h1 q.1)
theorem pvO_none2 {n k : Nat} {E : ES} (h1 : ¬ lsOk n (midE E k) k) : pvO n E k = none := cif_f (fun q => h1 q.2)
/-- plain elimination -/
noncomputable def plainF (n : Nat) : Nat → Nat → Nat → ES → Int32
  | 0, _, a, _ => nI a
  | f + 1, t, a, E => if lg_cmp (eM E (ordn n t) (ordn n t)).1 0 = 0 then -10 - nI t else match pvO n E (ordn n t) with
    | none => -30
    | some E' => plainF n f (t + 1) (if 0 < lg_cmp (eM E (ordn n t) (ordn n t)).1 0 then a + 1 else a) E'

set_option maxHeartbeats 4000000 in
set_option maxRecDepth 20000 in
theorem c_X0_makeSquare (l : Launch) (G : GT) (rg : RgT) (I : II) (L : LL) (o n k : Nat) (E : ES) (ho : isEl rg o) (hn : n < 5) (hk : k ≤ n) (hR : RelC n o I L E) (hS4 : eS E < 5) (hLn : ∀ j, n < j → eL E j = false) (hsg : ¬ lg_cmp (eM E k k).1 0 = 0) : CtI l yX0_makeSquare cX0_makeSquare 4 (some FieldType.boolean) 4 G rg I L [.ref (gB G + o), .int (nI k)] (fun r I1 L1 => Fm o (o + 79) I I1 ∧ Fm o (o + 79) L L1 ∧ ((r = b2i true ∧ rwOk n E k ∧ RelC n o I1 L1 (midE E k)) ∨ (r = b2i false ∧ ¬ rwOk n E k))) := by
  refine ctI_of [some (.ref (gB G + o)), some (.int (nI k)), none, none] rfl (Nat.le_of_ble_eq_true rfl) (by decide) ?_
  intro p e s m args below meth c C hr
  obtain ⟨ho1, ho2, ho3, ho4, ho5, ho6, ho7, ho8, ho9⟩ := id ho
  obtain ⟨hN, hS, hS5, hM, hLf, hSq⟩ := id hR
  have hsq := ho9 (eS E) (by omega)
  have hat : isF rg (o + 1 + 2 + (k * 5 + k)) := ho2.2.2 _ (by omega)
  refine j_aload_n C dX0_makeSquare_0 rfl rfl ?_
  refine g_getI C (by assumption) fl_X0_50 (by rfl) dX0_makeSquare_1 ?_
  refine t_i hS ?_
  refine j_iconst (v := nI 5) C dX0_makeSquare_4 (by decide) ?_
  first | refine n_icmp_ge (tgt := 23) C (by omega) (by omega) dX0_makeSquare_5 (by decide) (fun h_5 => ?_) (fun h_5 => ?_) | refine j_icmp_ge (tgt := 23) C dX0_makeSquare_5 (by decide) (fun h_5 => ?_) (fun h_5 => ?_)
  · exact absurd h_5 (by omega)
  · refine j_aload_n C dX0_makeSquare_8 rfl rfl ?_
    refine g_getR C (by assumption) fl_X0_12 (by rfl) dX0_makeSquare_9 ?_
    refine j_iload_n C dX0_makeSquare_12 rfl rfl ?_
    refine j_iload_n C dX0_makeSquare_13 rfl rfl ?_
    refine g_cvR C vc_X0_91 (c_X3_at l G rg _ _ _ _ _ ho2 (by omega) (by omega)) ⟨Nat.le_of_ble_eq_true rfl, Nat.le_of_ble_eq_true rfl⟩ (ho2.1) rfl rfl (Nat.le_of_ble_eq_true rfl) ⟨Nat.zero_le _, Nat.zero_le _⟩ dX0_makeSquare_14 (fun r_14 I_14 L_14 p_14 => ?_)
    obtain ⟨rfl, rfl, rfl⟩ := p_14
    refine g_cvI C vc_X0_95 (c_X2_sign l G rg _ _ _ hat) ⟨Nat.le_of_ble_eq_true rfl, Nat.le_of_ble_eq_true rfl⟩ (hat) rfl rfl (Nat.le_of_ble_eq_true rfl) ⟨Nat.zero_le _, Nat.zero_le _⟩ dX0_makeSquare_17 (fun r_17 I_17 L_17 p_17 => ?_)
    obtain ⟨rfl, rfl, rfl⟩ := p_17
    rw [show L (o + 1 + 2 + (k * 5 + k)) 0 = (eM E k k).1 from congrArg Prod.fst (hM k k (by omega) (by omega))]
    refine j_if_ne (tgt := 25) C dX0_makeSquare_20 (by decide) (fun h_20 => ?_) (fun h_20 => ?_)
    · refine j_aload_n C dX0_makeSquare_25 rfl rfl ?_
      refine g_getR C (by assumption) fl_X0_24 (by rfl) dX0_makeSquare_26 ?_
      refine j_aload_n C dX0_makeSquare_29 rfl rfl ?_
      refine g_getI C (by assumption) fl_X0_50 (by rfl) dX0_makeSquare_30 ?_
      refine t_i hS ?_
      refine g_aald4 C (ho4) (by omega) (by decide) (by rfl) (by omega) dX0_makeSquare_33 ?_
      refine j_astore_n C dX0_makeSquare_34 rfl (by decide) ?_
      refine j_aload_n C dX0_makeSquare_35 rfl rfl ?_
      refine j_iload_n C dX0_makeSquare_36 rfl rfl ?_
      refine j_aload_n C dX0_makeSquare_37 rfl rfl ?_
      refine g_getR C (by assumption) fl_X0_12 (by rfl) dX0_makeSquare_38 ?_
      refine j_iload_n C dX0_makeSquare_41 rfl rfl ?_
      refine j_iload_n C dX0_makeSquare_42 rfl rfl ?_
      refine g_cvR C vc_X0_91 (c_X3_at l G rg _ _ _ _ _ ho2 (by omega) (by omega)) ⟨Nat.le_of_ble_eq_true rfl, Nat.le_of_ble_eq_true rfl⟩ (ho2.1) rfl rfl (Nat.le_of_ble_eq_true rfl) ⟨Nat.zero_le _, Nat.zero_le _⟩ dX0_makeSquare_43 (fun r_43 I_43 L_43 p_43 => ?_)
      obtain ⟨rfl, rfl, rfl⟩ := p_43
      refine g_cvV C vc_X0_111 (c_X5_start l G rg _ _ (o + 39 + 8 * eS E) k _ hsq hat (by omega) (by omega)) ⟨Nat.le_of_ble_eq_true rfl, Nat.le_of_ble_eq_true rfl⟩ (hsq.1) rfl rfl (Nat.le_of_ble_eq_true rfl) ⟨Nat.zero_le _, Nat.zero_le _⟩ dX0_makeSquare_46 (fun I_46 L_46 p_46 => ?_)
      obtain ⟨rfl, hF1, hA1, hC1⟩ := p_46
      refine j_aload_n C dX0_makeSquare_49 rfl rfl ?_
      refine j_dup C dX0_makeSquare_50 rfl ?_
      refine g_getI C (by assumption) fl_X0_50 (by rfl) dX0_makeSquare_51 ?_
      refine t_i (y := nI (eS E)) (by rw [up2_ne _ (by omega)]; exact hS) ?_
      refine j_iconst (v := nI 1) C dX0_makeSquare_54 (by decide) ?_
      first | refine n_iadd C dX0_makeSquare_55 ?_ | refine j_iadd C dX0_makeSquare_55 ?_
      refine g_putI C (by assumption) fw_X0_50 (by rfl) rfl (fits_int _) dX0_makeSquare_56 ?_
      refine j_aload_n C dX0_makeSquare_59 rfl rfl ?_
      refine g_getR C (by assumption) fl_X0_18 (by rfl) dX0_makeSquare_60 ?_
      refine j_iload_n C dX0_makeSquare_63 rfl rfl ?_
      refine j_iconst (v := nI 0) C dX0_makeSquare_64 (by decide) ?_
      refine g_zast C (ho3) (by omega) (by decide) rfl dX0_makeSquare_65 ?_
      refine j_iconst (v := nI 0) C dX0_makeSquare_66 (by decide) ?_
      refine j_istore_n C dX0_makeSquare_67 rfl (by decide) ?_
      obtain ⟨I2, hI2⟩ : ∃ I2, I2 = (up2 (up2 (up2 I (o + 39 + 8 * eS E) 2 (nI k)) o 7 (nI (eS E + 1))) (o + 29) k (nI 0)) := ⟨_, rfl⟩
      rw [← hI2]
      have hFI : Fm o (o + 79) I I2 := by rw [hI2]; exact up2_I (up2_I (up2_I Fm.rf (by omega) (by omega)) (by omega) (by omega)) (by omega) (by omega)
      have hN2 : I2 o 6 = nI n := by rw [hI2, up2_ne _ (by omega), up2_at, if_pos rfl, if_neg (by decide), up2_ne _ (by omega)]; exact hN
      have hS2 : I2 o 7 = nI (eS E + 1) := by rw [hI2, up2_ne _ (by omega), up2_at, if_pos rfl, if_pos rfl]
      have hL2 : ∀ i, i < 5 → I2 (o + 29) i = b2i (va_up (eL E) k false i) := fun i hi => by rw [hI2, up2_at, if_pos rfl, up2_ne _ (by omega), up2_ne _ (by omega)]; unfold va_up; split <;> first | rfl | exact hLf i hi
      have hp2 : I2 (o + 39 + 8 * eS E) 2 = nI k := by rw [hI2, up2_ne _ (by omega), up2_ne _ (by omega), up2_at, if_pos rfl, if_pos rfl]
      have hpo2 : ∀ q, q < eS E → I2 (o + 39 + 8 * q) 2 = I (o + 39 + 8 * q) 2 := fun q hq => by rw [hI2, up2_ne _ (by omega), up2_ne _ (by omega), up2_ne _ (by omega)]
      have lp : ∀ (fuel : Nat) (j : Nat) (L1 : LL), n + 1 < fuel + j → j ≤ n + 1 → Fm ((o + 39 + 8 * eS E) + 1) ((o + 39 + 8 * eS E) + 8) L L1 → fr L1 ((o + 39 + 8 * eS E) + 1) = eM E k k → (∀ i, i < j → rwO E k i = some (fr L1 ((o + 39 + 8 * eS E) + 3 + i))) → (∀ i, j ≤ i → i < 5 → fr L1 ((o + 39 + 8 * eS E) + 3 + i) = sqI k i) → J p l e (rmD 4) s m args below meth c (MQ below (QI G rg (fun r I1 L1 => Fm o (o + 79) I I1 ∧ Fm o (o + 79) L L1 ∧ ((r = b2i true ∧ rwOk n E k ∧ RelC n o I1 L1 (midE E k)) ∨ (r = b2i false ∧ ¬ rwOk n E k)))) args s 0 0 (rg_A G rg)) 4 G rg 0 0 I2 L1 68 [some (.ref (gB G + o)), some (.int (nI k)), some (.ref (gB G + (o + 39 + 8 * eS E))), some (.int (nI j))] [] := by
        intro fuel
        induction fuel with
        | zero => intro j L1 h1 h2 hG1 hw1 hP1 hU1; exfalso; omega
        | succ fuel ih_lp =>
          intro j L1 h1 h2 hG1 hw1 hP1 hU1
          refine j_iload_n C dX0_makeSquare_68 rfl rfl ?_
          refine j_aload_n C dX0_makeSquare_69 rfl rfl ?_
          refine g_getI C (by assumption) fl_X0_46 (by rfl) dX0_makeSquare_70 ?_
          refine t_i hN2 ?_
          first | refine n_icmp_gt (tgt := 123) C (by omega) (by omega) dX0_makeSquare_73 (by decide) (fun h_73 => ?_) (fun h_73 => ?_) | refine j_icmp_gt (tgt := 123) C dX0_makeSquare_73 (by decide) (fun h_73 => ?_) (fun h_73 => ?_)
          · refine j_iconst (v := nI 1) C dX0_makeSquare_123 (by decide) ?_
            refine j_zret C hr (by rfl) dX0_makeSquare_124 ⟨hFI, hG1.mono (by omega) (by omega), Or.inl ⟨rfl, (fun i hi q => by rw [hP1 i (by omega)] at q; cases q), RelC_mid hR hn hk hS4 hN2 hS2 hL2 hp2 hpo2 hG1 hw1 (fun i hi => ?_)⟩⟩
            by_cases hi2 : i < j
            · exact (rwF_of (hP1 i hi2)).symm
            · rw [hU1 i (by omega) hi, rwF_of (rwO_f (by by_cases e : i = k; exact absurd e (by omega); rw [va_up_ne _ _ e]; exact hLn i (by omega)))]
          · refine j_aload_n C dX0_makeSquare_76 rfl rfl ?_
            refine g_getR C (by assumption) fl_X0_18 (by rfl) dX0_makeSquare_77 ?_
            refine j_iload_n C dX0_makeSquare_80 rfl rfl ?_
            refine g_zald C (ho3) (by omega) (by decide) dX0_makeSquare_81 ?_
            refine t_i (hL2 j (by omega)) ?_
            first | refine n_if_eq (tgt := 117) C dX0_makeSquare_82 (by decide) (fun h_82 => ?_) (fun h_82 => ?_) | refine j_if_eq (tgt := 117) C dX0_makeSquare_82 (by decide) (fun h_82 => ?_) (fun h_82 => ?_)
            · first | refine n_iinc (n := 1) C dX0_makeSquare_117 rfl (by decide) ?_ | refine j_iinc C dX0_makeSquare_117 rfl rfl (by decide) ?_
              refine j_goto (tgt := 68) C dX0_makeSquare_120 (by decide) ?_
              first
              | exact ih_lp (j + 1) L1 (by omega) (by omega) hG1 hw1 (fun i hi => by by_cases e : i = j; (subst e; rw [hU1 i (Nat.le_refl i) (by omega)]; exact rwO_f h_82); exact hP1 i (by omega)) (fun i h1 h2 => hU1 i (by omega) h2)
              | exact ih_lp (j + 1) _ (by omega) (by omega) (hG1.set (by omega) (by omega)) (by rw [fr_setF, if_neg (by omega)]; exact hw1) (fun i hi => by by_cases e : i = j; (subst e; rw [fr_setF, if_pos rfl]; exact hz_109); (rw [fr_setF, if_neg (by omega)]; exact hP1 i (by omega))) (fun i h1 h2 => by rw [fr_setF, if_neg (by omega)]; exact hU1 i (by omega) h2)
            · refine j_aload_n C dX0_makeSquare_85 rfl rfl ?_
              refine g_getR C (hsq.1) fl_X0_114 (by rfl) dX0_makeSquare_86 ?_
              refine j_iload_n C dX0_makeSquare_89 rfl rfl ?_
              refine g_aald3 C (hsq.2.2.1) (by omega) (by decide) (by rfl) (by omega) dX0_makeSquare_90 ?_
              refine j_aload_n C dX0_makeSquare_91 rfl rfl ?_
              refine g_getR C (by assumption) fl_X0_12 (by rfl) dX0_makeSquare_92 ?_
              refine j_iload_n C dX0_makeSquare_95 rfl rfl ?_
              refine j_iload_n C dX0_makeSquare_96 rfl rfl ?_
              refine g_cvR C vc_X0_91 (c_X3_at l G rg _ _ _ _ _ ho2 (by omega) (by omega)) ⟨Nat.le_of_ble_eq_true rfl, Nat.le_of_ble_eq_true rfl⟩ (ho2.1) rfl rfl (Nat.le_of_ble_eq_true rfl) ⟨Nat.zero_le _, Nat.zero_le _⟩ dX0_makeSquare_97 (fun r_97 I_97 L_97 p_97 => ?_)
              obtain ⟨rfl, rfl, rfl⟩ := p_97
              refine j_aload_n C dX0_makeSquare_100 rfl rfl ?_
              refine g_getR C (by assumption) fl_X0_12 (by rfl) dX0_makeSquare_101 ?_
              refine j_iload_n C dX0_makeSquare_104 rfl rfl ?_
              refine j_iload_n C dX0_makeSquare_105 rfl rfl ?_
              refine g_cvR C vc_X0_91 (c_X3_at l G rg _ _ _ _ _ ho2 (by omega) (by omega)) ⟨Nat.le_of_ble_eq_true rfl, Nat.le_of_ble_eq_true rfl⟩ (ho2.1) rfl rfl (Nat.le_of_ble_eq_true rfl) ⟨Nat.zero_le _, Nat.zero_le _⟩ dX0_makeSquare_106 (fun r_106 I_106 L_106 p_106 => ?_)
              obtain ⟨rfl, rfl, rfl⟩ := p_106
              have hFr : isF rg ((o + 39 + 8 * eS E) + 3 + j) := hsq.2.2.2 j (by omega)
              have hFa : isF rg (o + 1 + 2 + (k * 5 + j)) := ho2.2.2 _ (by omega)
              refine g_cvI C vc_X0_117 (c_X2_quotient l G rg _ _ _ _ _ hFr hFa hat) ⟨Nat.le_of_ble_eq_true rfl, Nat.le_of_ble_eq_true rfl⟩ (hFr) rfl rfl (Nat.le_of_ble_eq_true rfl) ⟨Nat.zero_le _, Nat.zero_le _⟩ dX0_makeSquare_109 (fun r_109 I_109 L_109 p_109 => ?_)
              rw [show fr L1 (o + 1 + 2 + (k * 5 + j)) = eM E k j from (hG1.fr (by omega)).trans (hM k j (by omega) (by omega)), show fr L1 (o + 1 + 2 + (k * 5 + k)) = eM E k k from (hG1.fr (by omega)).trans (hM k k (by omega) (by omega)), ← rwO_t h_82] at p_109
              obtain ⟨rfl, ⟨z_109, hz_109, rfl, rfl⟩ | ⟨hz_109, rfl, rfl⟩⟩ := p_109
              · refine j_if_ne (tgt := 117) C dX0_makeSquare_112 (by decide) (fun h_112 => ?_) (fun h_112 => ?_)
                · first | refine n_iinc (n := 1) C dX0_makeSquare_117 rfl (by decide) ?_ | refine j_iinc C dX0_makeSquare_117 rfl rfl (by decide) ?_
                  refine j_goto (tgt := 68) C dX0_makeSquare_120 (by decide) ?_
                  first
                  | exact ih_lp (j + 1) L1 (by omega) (by omega) hG1 hw1 (fun i hi => by by_cases e : i = j; (subst e; rw [hU1 i (Nat.le_refl i) (by omega)]; exact rwO_f h_82); exact hP1 i (by omega)) (fun i h1 h2 => hU1 i (by omega) h2)
                  | exact ih_lp (j + 1) _ (by omega) (by omega) (hG1.set (by omega) (by omega)) (by rw [fr_setF, if_neg (by omega)]; exact hw1) (fun i hi => by by_cases e : i = j; (subst e; rw [fr_setF, if_pos rfl]; exact hz_109); (rw [fr_setF, if_neg (by omega)]; exact hP1 i (by omega))) (fun i h1 h2 => by rw [fr_setF, if_neg (by omega)]; exact hU1 i (by omega) h2)
                · exact absurd h_112 (by decide)
              · refine j_if_ne (tgt := 117) C dX0_makeSquare_112 (by decide) (fun h_112 => ?_) (fun h_112 => ?_)
                · exact absurd rfl h_112
                · refine j_iconst (v := nI 0) C dX0_makeSquare_115 (by decide) ?_
                  exact j_zret C hr (by first | rfl | exact b2i_n _ rfl) dX0_makeSquare_116 (⟨hFI, hG1.mono (by omega) (by omega), Or.inr ⟨rfl, fun q => q j (by omega) hz_109⟩⟩)
      exact lp (n + 2) 0 _ (by omega) (by omega) hF1 (hA1.trans (hM k k (by omega) (by omega))) (fun i hi => absurd hi (Nat.not_lt_zero i)) (fun i _ hi => hC1 i hi)
    · exact absurd h_20 hsg

set_option maxHeartbeats 4000000 in
set_option maxRecDepth 20000 in
theorem c_X0_lessen (l : Launch) (G : GT) (rg : RgT) (I : II) (L : LL) (o n k : Nat) (E : ES) (ho : isEl rg o) (hn : n < 5) (hk : k ≤ n) (hR : RelC n o I L E) (hS1 : 1 ≤ eS E) (hlk : eL E k = false) : CtI l yX0_lessen cX0_lessen 8 (some FieldType.boolean) 4 G rg I L [.ref (gB G + o), .int (nI k)] (fun r I1 L1 => I = I1 ∧ Fm (o + 3) (o + 38) L L1 ∧ ((r = b2i true ∧ lsOk n E k ∧ RelC n o I L1 (lsE n E k)) ∨ (r = b2i false ∧ ¬ lsOk n E k))) := by
  refine ctI_of [some (.ref (gB G + o)), some (.int (nI k)), none, none, none, none, none, none] rfl (Nat.le_of_ble_eq_true rfl) (by decide) ?_
  intro p e s m args below meth c C hr
  obtain ⟨ho1, ho2, ho3, ho4, ho5, ho6, ho7, ho8, ho9⟩ := id ho
  obtain ⟨hN, hS, hS5, hM, hLf, hSq⟩ := id hR
  have hsq := ho9 (eS E - 1) (by omega)
  have lp : ∀ (fuel : Nat) (t : Nat) (L1 : LL), n + 1 < fuel + t → t ≤ n + 1 → Fm (o + 3) (o + 38) L L1 → NLs n k E o L1 t t → J p l e (rmD 4) s m args below meth c (MQ below (QI G rg (fun r I1 L1 => I = I1 ∧ Fm (o + 3) (o + 38) L L1 ∧ ((r = b2i true ∧ lsOk n E k ∧ RelC n o I L1 (lsE n E k)) ∨ (r = b2i false ∧ ¬ lsOk n E k)))) args s 0 0 (rg_A G rg)) 8 G rg 0 0 I L1 14 [some (.ref (gB G + o)), some (.int (nI k)), some (.ref (gB G + (o + 39 + 8 * (eS E - 1)))), some (.int (nI t)), none, none, none, none] [] := by
    intro fuel
    induction fuel with
    | zero => intro t L1 h1 h2 hG1 hT1; exfalso; omega
    | succ fuel ih_lp =>
      intro t L1 h1 h2 hG1 hT1
      refine j_iload_n C dX0_lessen_14 rfl rfl ?_
      refine j_aload_n C dX0_lessen_15 rfl rfl ?_
      refine g_getI C (by assumption) fl_X0_46 (by rfl) dX0_lessen_16 ?_
      refine t_i hN ?_
      first | refine n_icmp_gt (tgt := 188) C (by omega) (by omega) dX0_lessen_19 (by decide) (fun h_19 => ?_) (fun h_19 => ?_) | refine j_icmp_gt (tgt := 188) C dX0_lessen_19 (by decide) (fun h_19 => ?_) (fun h_19 => ?_)
      · refine j_iconst (v := nI 1) C dX0_lessen_188 (by decide) ?_
        exact j_zret C hr (by first | rfl | exact b2i_n _ rfl) dX0_lessen_189 (⟨rfl, hG1, Or.inl ⟨rfl, RelC_ls hR hn hG1 (fun a b ha hb => ⟨fun q1 q2 _ => (hT1 a b ha hb).1 q1 q2 (by have := posn_le ha; have := posn_le hb; unfold prc; omega), fun q => (hT1 a b ha hb).2 (fun z => q ⟨z.1, z.2.1, by have := posn_le ha; have := posn_le hb; unfold prc; omega⟩)⟩)⟩⟩)
      · refine j_iload_n C dX0_lessen_22 rfl rfl ?_
        refine j_aload_n C dX0_lessen_23 rfl rfl ?_
        refine g_getI C (by assumption) fl_X0_46 (by rfl) dX0_lessen_24 ?_
        refine t_i hN ?_
        refine j_csI C sc_X0_87 (c_X6_inOrder l G rg _ _ _ _ (by omega) (by omega)) ⟨Nat.le_of_ble_eq_true rfl, Nat.le_of_ble_eq_true rfl⟩ rfl rfl (Nat.le_of_ble_eq_true rfl) ⟨Nat.zero_le _, Nat.zero_le _⟩ dX0_lessen_27 (fun r_27 I_27 L_27 p_27 => ?_)
        obtain ⟨rfl, rfl, rfl⟩ := p_27
        refine j_istore C dX0_lessen_30 (by decide) ?_
        refine j_iload_n C dX0_lessen_32 rfl rfl ?_
        refine j_istore C dX0_lessen_33 (by decide) ?_
        have lq : ∀ (fuel : Nat) (w : Nat) (L1 : LL), n + 1 < fuel + w → w ≤ n + 1 → t ≤ w → Fm (o + 3) (o + 38) L L1 → NLs n k E o L1 t w → J p l e (rmD 4) s m args below meth c (MQ below (QI G rg (fun r I1 L1 => I = I1 ∧ Fm (o + 3) (o + 38) L L1 ∧ ((r = b2i true ∧ lsOk n E k ∧ RelC n o I L1 (lsE n E k)) ∨ (r = b2i false ∧ ¬ lsOk n E k)))) args s 0 0 (rg_A G rg)) 8 G rg 0 0 I L1 35 [some (.ref (gB G + o)), some (.int (nI k)), some (.ref (gB G + (o + 39 + 8 * (eS E - 1)))), some (.int (nI t)), some (.int (nI (ordn n t))), some (.int (nI w)), none, none] [] := by
          intro fuel
          induction fuel with
          | zero => intro w L1 q1 q2 q3 hG1 hT1; exfalso; omega
          | succ fuel ih_lq =>
            intro w L1 q1 q2 q3 hG1 hT1
            refine j_iload C dX0_lessen_35 rfl ?_
            refine j_aload_n C dX0_lessen_37 rfl rfl ?_
            refine g_getI C (by assumption) fl_X0_46 (by rfl) dX0_lessen_38 ?_
            refine t_i hN ?_
            first | refine n_icmp_gt (tgt := 182) C (by omega) (by omega) dX0_lessen_41 (by decide) (fun h_41 => ?_) (fun h_41 => ?_) | refine j_icmp_gt (tgt := 182) C dX0_lessen_41 (by decide) (fun h_41 => ?_) (fun h_41 => ?_)
            · first | refine n_iinc (n := 1) C dX0_lessen_182 rfl (by decide) ?_ | refine j_iinc C dX0_lessen_182 rfl rfl (by decide) ?_
              refine j_goto (tgt := 14) C dX0_lessen_185 (by decide) ?_
              refine j_rm 4 ?_
              refine j_rm 5 ?_
              refine j_rm 6 ?_
              refine j_rm 7 ?_
              exact ih_lp (t + 1) L1 (by omega) (by omega) hG1 (NLs_n hT1 (by omega))
            · refine j_iload C dX0_lessen_44 rfl ?_
              refine j_aload_n C dX0_lessen_46 rfl rfl ?_
              refine g_getI C (by assumption) fl_X0_46 (by rfl) dX0_lessen_47 ?_
              refine t_i hN ?_
              refine j_csI C sc_X0_87 (c_X6_inOrder l G rg _ _ _ _ (by omega) (by omega)) ⟨Nat.le_of_ble_eq_true rfl, Nat.le_of_ble_eq_true rfl⟩ rfl rfl (Nat.le_of_ble_eq_true rfl) ⟨Nat.zero_le _, Nat.zero_le _⟩ dX0_lessen_50 (fun r_50 I_50 L_50 p_50 => ?_)
              obtain ⟨rfl, rfl, rfl⟩ := p_50
              refine j_istore C dX0_lessen_53 (by decide) ?_
              refine j_aload_n C dX0_lessen_55 rfl rfl ?_
              refine g_getR C (by assumption) fl_X0_18 (by rfl) dX0_lessen_56 ?_
              refine j_iload C dX0_lessen_59 rfl ?_
              refine g_zald C (ho3) (by have := ordn_le n t; omega) (by decide) dX0_lessen_61 ?_
              have o1 := ordn_le n t
              have o2 := ordn_le n w
              refine t_i (hLf (ordn n t) (by omega)) ?_
              first | refine n_if_eq (tgt := 176) C dX0_lessen_62 (by decide) (fun h_62 => ?_) (fun h_62 => ?_) | refine j_if_eq (tgt := 176) C dX0_lessen_62 (by decide) (fun h_62 => ?_) (fun h_62 => ?_)
              · first | refine n_iinc (n := 1) C dX0_lessen_176 rfl (by decide) ?_ | refine j_iinc C dX0_lessen_176 rfl rfl (by decide) ?_
                refine j_goto (tgt := 35) C dX0_lessen_179 (by decide) ?_
                refine j_rm 6 ?_
                refine j_rm 7 ?_
                first
                | exact ih_lq (w + 1) L1 (by omega) (by omega) (by omega) hG1 (NLs_skip hT1 q3 (by omega) (fun q => by first | exact absurd (h_62.symm.trans q.1) (by decide) | exact absurd (h_72.symm.trans q.2) (by decide)))
                | (refine ih_lq (w + 1) _ (by omega) (by omega) (by omega) (((hG1.set (by omega) (by omega)).set (by omega) (by omega)).set (by omega) (by omega)) (NLs_s hT1 hn q3 (by omega) hcp ?_ ?_ (fun q w1 w2 w3 => ?_) h_62 h_72)
                   · simp only [fr_setF]; split <;> simp_all
                   · rw [show o + 3 + (ordn n w * 5 + ordn n t) = o + 1 + 2 + (ordn n w * 5 + ordn n t) by omega, fr_setF, if_pos rfl, fr_setF, if_pos rfl]
                   · rw [fr_setF, if_neg (by omega), fr_setF, if_neg (by omega), fr_setF, if_neg (by omega)])
              · refine j_aload_n C dX0_lessen_65 rfl rfl ?_
                refine g_getR C (by assumption) fl_X0_18 (by rfl) dX0_lessen_66 ?_
                refine j_iload C dX0_lessen_69 rfl ?_
                refine g_zald C (ho3) (by omega) (by decide) dX0_lessen_71 ?_
                refine t_i (hLf (ordn n w) (by omega)) ?_
                first | refine n_if_ne (tgt := 78) C dX0_lessen_72 (by decide) (fun h_72 => ?_) (fun h_72 => ?_) | refine j_if_ne (tgt := 78) C dX0_lessen_72 (by decide) (fun h_72 => ?_) (fun h_72 => ?_)
                · refine j_aload_n C dX0_lessen_78 rfl rfl ?_
                  refine g_getR C (by assumption) fl_X0_39 (by rfl) dX0_lessen_79 ?_
                  refine j_aload_n C dX0_lessen_82 rfl rfl ?_
                  refine g_getR C (by assumption) fl_X0_12 (by rfl) dX0_lessen_83 ?_
                  refine j_iload C dX0_lessen_86 rfl ?_
                  refine j_iload_n C dX0_lessen_88 rfl rfl ?_
                  refine g_cvR C vc_X0_91 (c_X3_at l G rg _ _ _ _ _ ho2 (by omega) (by omega)) ⟨Nat.le_of_ble_eq_true rfl, Nat.le_of_ble_eq_true rfl⟩ (ho2.1) rfl rfl (Nat.le_of_ble_eq_true rfl) ⟨Nat.zero_le _, Nat.zero_le _⟩ dX0_lessen_89 (fun r_89 I_89 L_89 p_89 => ?_)
                  obtain ⟨rfl, rfl, rfl⟩ := p_89
                  refine j_aload_n C dX0_lessen_92 rfl rfl ?_
                  refine g_getR C (hsq.1) fl_X0_114 (by rfl) dX0_lessen_93 ?_
                  refine j_iload C dX0_lessen_96 rfl ?_
                  refine g_aald3 C (hsq.2.2.1) (by omega) (by decide) (by rfl) (by omega) dX0_lessen_98 ?_
                  have hFa : isF rg (o + 1 + 2 + (ordn n t * 5 + k)) := ho2.2.2 _ (by omega)
                  have hFr : isF rg ((o + 39 + 8 * (eS E - 1)) + 3 + ordn n w) := hsq.2.2.2 _ (by omega)
                  refine g_cvI C vc_X0_121 (c_X2_product l G rg _ _ _ _ _ ho7 hFa hFr) ⟨Nat.le_of_ble_eq_true rfl, Nat.le_of_ble_eq_true rfl⟩ (ho7) rfl rfl (Nat.le_of_ble_eq_true rfl) ⟨Nat.zero_le _, Nat.zero_le _⟩ dX0_lessen_99 (fun r_99 I_99 L_99 p_99 => ?_)
                  rw [show fr L1 (o + 1 + 2 + (ordn n t * 5 + k)) = eM E (ordn n t) k from (hT1 (ordn n t) k (by omega) (by omega)).2 (fun q => by rw [hlk] at q; cases q.2.1), show fr L1 ((o + 39 + 8 * (eS E - 1)) + 3 + ordn n w) = eN E (eS E - 1) (ordn n w) from (hG1.fr (by omega)).trans (by rw [show (o + 39 + 8 * (eS E - 1)) + 3 + ordn n w = o + 42 + 8 * (eS E - 1) + ordn n w by omega]; exact (hSq (eS E - 1) (by omega)).2.2.2 (ordn n w) (by omega))] at p_99
                  obtain ⟨rfl, ⟨z_99, hz_99, rfl, rfl⟩ | ⟨hz_99, rfl, rfl⟩⟩ := p_99
                  · refine j_if_eq (tgt := 141) C dX0_lessen_102 (by decide) (fun h_102 => ?_) (fun h_102 => ?_)
                    · exact absurd h_102 (by decide)
                    · refine j_aload_n C dX0_lessen_105 rfl rfl ?_
                      refine g_getR C (by assumption) fl_X0_12 (by rfl) dX0_lessen_106 ?_
                      refine j_iload C dX0_lessen_109 rfl ?_
                      refine j_iload C dX0_lessen_111 rfl ?_
                      refine g_cvR C vc_X0_91 (c_X3_at l G rg _ _ _ _ _ ho2 (by omega) (by omega)) ⟨Nat.le_of_ble_eq_true rfl, Nat.le_of_ble_eq_true rfl⟩ (ho2.1) rfl rfl (Nat.le_of_ble_eq_true rfl) ⟨Nat.zero_le _, Nat.zero_le _⟩ dX0_lessen_113 (fun r_113 I_113 L_113 p_113 => ?_)
                      obtain ⟨rfl, rfl, rfl⟩ := p_113
                      refine j_aload_n C dX0_lessen_116 rfl rfl ?_
                      refine g_getR C (by assumption) fl_X0_12 (by rfl) dX0_lessen_117 ?_
                      refine j_iload C dX0_lessen_120 rfl ?_
                      refine j_iload C dX0_lessen_122 rfl ?_
                      refine g_cvR C vc_X0_91 (c_X3_at l G rg _ _ _ _ _ ho2 (by omega) (by omega)) ⟨Nat.le_of_ble_eq_true rfl, Nat.le_of_ble_eq_true rfl⟩ (ho2.1) rfl rfl (Nat.le_of_ble_eq_true rfl) ⟨Nat.zero_le _, Nat.zero_le _⟩ dX0_lessen_124 (fun r_124 I_124 L_124 p_124 => ?_)
                      obtain ⟨rfl, rfl, rfl⟩ := p_124
                      refine j_aload_n C dX0_lessen_127 rfl rfl ?_
                      refine g_getR C (by assumption) fl_X0_39 (by rfl) dX0_lessen_128 ?_
                      have hFx : isF rg (o + 1 + 2 + (ordn n t * 5 + ordn n w)) := ho2.2.2 _ (by omega)
                      refine g_cvI C vc_X0_123 (c_X2_difference l G rg _ _ _ _ _ hFx hFx ho7) ⟨Nat.le_of_ble_eq_true rfl, Nat.le_of_ble_eq_true rfl⟩ (hFx) rfl rfl (Nat.le_of_ble_eq_true rfl) ⟨Nat.zero_le _, Nat.zero_le _⟩ dX0_lessen_131 (fun r_131 I_131 L_131 p_131 => ?_)
                      rw [fr_setF, if_neg (by omega), fr_setF, if_pos rfl, show fr L1 (o + 1 + 2 + (ordn n t * 5 + ordn n w)) = eM E (ordn n t) (ordn n w) from (hT1 (ordn n t) (ordn n w) (by omega) (by omega)).2 (fun q => by have := q.2.2; rw [posn_ordn (by omega), posn_ordn (by omega)] at this; unfold prc at this; omega)] at p_131
                      obtain ⟨rfl, ⟨z_131, hz_131, rfl, rfl⟩ | ⟨hz_131, rfl, rfl⟩⟩ := p_131
                      · have hcp : cpO E k (ordn n t) (ordn n w) = some z_131 := by unfold cpO; rw [hz_99]; exact hz_131
                        refine j_if_eq (tgt := 141) C dX0_lessen_134 (by decide) (fun h_134 => ?_) (fun h_134 => ?_)
                        · exact absurd h_134 (by decide)
                        · refine j_iconst (v := nI 1) C dX0_lessen_137 (by decide) ?_
                          refine j_goto (tgt := 142) C dX0_lessen_138 (by decide) ?_
                          refine j_istore C dX0_lessen_142 (by decide) ?_
                          refine j_iload C dX0_lessen_144 rfl ?_
                          refine j_if_ne (tgt := 151) C dX0_lessen_146 (by decide) (fun h_146 => ?_) (fun h_146 => ?_)
                          · refine j_aload_n C dX0_lessen_151 rfl rfl ?_
                            refine g_getR C (by assumption) fl_X0_12 (by rfl) dX0_lessen_152 ?_
                            refine j_iload C dX0_lessen_155 rfl ?_
                            refine j_iload C dX0_lessen_157 rfl ?_
                            refine g_cvR C vc_X0_91 (c_X3_at l G rg _ _ _ _ _ ho2 (by omega) (by omega)) ⟨Nat.le_of_ble_eq_true rfl, Nat.le_of_ble_eq_true rfl⟩ (ho2.1) rfl rfl (Nat.le_of_ble_eq_true rfl) ⟨Nat.zero_le _, Nat.zero_le _⟩ dX0_lessen_159 (fun r_159 I_159 L_159 p_159 => ?_)
                            obtain ⟨rfl, rfl, rfl⟩ := p_159
                            refine j_aload_n C dX0_lessen_162 rfl rfl ?_
                            refine g_getR C (by assumption) fl_X0_12 (by rfl) dX0_lessen_163 ?_
                            refine j_iload C dX0_lessen_166 rfl ?_
                            refine j_iload C dX0_lessen_168 rfl ?_
                            refine g_cvR C vc_X0_91 (c_X3_at l G rg _ _ _ _ _ ho2 (by omega) (by omega)) ⟨Nat.le_of_ble_eq_true rfl, Nat.le_of_ble_eq_true rfl⟩ (ho2.1) rfl rfl (Nat.le_of_ble_eq_true rfl) ⟨Nat.zero_le _, Nat.zero_le _⟩ dX0_lessen_170 (fun r_170 I_170 L_170 p_170 => ?_)
                            obtain ⟨rfl, rfl, rfl⟩ := p_170
                            have hFy : isF rg (o + 1 + 2 + (ordn n t * 5 + ordn n w)) := ho2.2.2 _ (by omega)
                            have hFz : isF rg (o + 1 + 2 + (ordn n w * 5 + ordn n t)) := ho2.2.2 _ (by omega)
                            refine g_cvV C vc_X0_126 (c_X2_copy l G rg _ _ _ _ hFz hFy) ⟨Nat.le_of_ble_eq_true rfl, Nat.le_of_ble_eq_true rfl⟩ (hFz) rfl rfl (Nat.le_of_ble_eq_true rfl) ⟨Nat.zero_le _, Nat.zero_le _⟩ dX0_lessen_173 (fun I_173 L_173 p_173 => ?_)
                            obtain ⟨rfl, rfl⟩ := p_173
                            first | refine n_iinc (n := 1) C dX0_lessen_176 rfl (by decide) ?_ | refine j_iinc C dX0_lessen_176 rfl rfl (by decide) ?_
                            refine j_goto (tgt := 35) C dX0_lessen_179 (by decide) ?_
                            refine j_rm 6 ?_
                            refine j_rm 7 ?_
                            first
                            | exact ih_lq (w + 1) L1 (by omega) (by omega) (by omega) hG1 (NLs_skip hT1 q3 (by omega) (fun q => by first | exact absurd (h_62.symm.trans q.1) (by decide) | exact absurd (h_72.symm.trans q.2) (by decide)))
                            | (refine ih_lq (w + 1) _ (by omega) (by omega) (by omega) (((hG1.set (by omega) (by omega)).set (by omega) (by omega)).set (by omega) (by omega)) (NLs_s hT1 hn q3 (by omega) hcp ?_ ?_ (fun q w1 w2 w3 => ?_) h_62 h_72)
                               · simp only [fr_setF]; split <;> simp_all
                               · rw [show o + 3 + (ordn n w * 5 + ordn n t) = o + 1 + 2 + (ordn n w * 5 + ordn n t) by omega, fr_setF, if_pos rfl, fr_setF, if_pos rfl]
                               · rw [fr_setF, if_neg (by omega), fr_setF, if_neg (by omega), fr_setF, if_neg (by omega)])
                          · exact absurd h_146 (by decide)
                      · have hcp : cpO E k (ordn n t) (ordn n w) = none := by unfold cpO; rw [hz_99]; exact hz_131
                        refine j_if_eq (tgt := 141) C dX0_lessen_134 (by decide) (fun h_134 => ?_) (fun h_134 => ?_)
                        · refine j_iconst (v := nI 0) C dX0_lessen_141 (by decide) ?_
                          refine j_istore C dX0_lessen_142 (by decide) ?_
                          refine j_iload C dX0_lessen_144 rfl ?_
                          refine j_if_ne (tgt := 151) C dX0_lessen_146 (by decide) (fun h_146 => ?_) (fun h_146 => ?_)
                          · exact absurd rfl h_146
                          · refine j_iconst (v := nI 0) C dX0_lessen_149 (by decide) ?_
                            exact j_zret C hr (by first | rfl | exact b2i_n _ rfl) dX0_lessen_150 (⟨rfl, by first | exact hG1 | exact hG1.set (by omega) (by omega) | exact (hG1.set (by omega) (by omega)).set (by omega) (by omega), Or.inr ⟨rfl, fun q => q (ordn n t) (ordn n w) (by omega) (by omega) h_62 h_72 (by rw [nwO_ord (by omega) (by omega)]; exact hcp)⟩⟩)
                        · exact absurd rfl h_134
                  · have hcp : cpO E k (ordn n t) (ordn n w) = none := by unfold cpO; rw [hz_99]; rfl
                    refine j_if_eq (tgt := 141) C dX0_lessen_102 (by decide) (fun h_102 => ?_) (fun h_102 => ?_)
                    · refine j_iconst (v := nI 0) C dX0_lessen_141 (by decide) ?_
                      refine j_istore C dX0_lessen_142 (by decide) ?_
                      refine j_iload C dX0_lessen_144 rfl ?_
                      refine j_if_ne (tgt := 151) C dX0_lessen_146 (by decide) (fun h_146 => ?_) (fun h_146 => ?_)
                      · exact absurd rfl h_146
                      · refine j_iconst (v := nI 0) C dX0_lessen_149 (by decide) ?_
                        exact j_zret C hr (by first | rfl | exact b2i_n _ rfl) dX0_lessen_150 (⟨rfl, by first | exact hG1 | exact hG1.set (by omega) (by omega) | exact (hG1.set (by omega) (by omega)).set (by omega) (by omega), Or.inr ⟨rfl, fun q => q (ordn n t) (ordn n w) (by omega) (by omega) h_62 h_72 (by rw [nwO_ord (by omega) (by omega)]; exact hcp)⟩⟩)
                    · exact absurd rfl h_102
                · refine j_goto (tgt := 176) C dX0_lessen_75 (by decide) ?_
                  first | refine n_iinc (n := 1) C dX0_lessen_176 rfl (by decide) ?_ | refine j_iinc C dX0_lessen_176 rfl rfl (by decide) ?_
                  refine j_goto (tgt := 35) C dX0_lessen_179 (by decide) ?_
                  refine j_rm 6 ?_
                  refine j_rm 7 ?_
                  first
                  | exact ih_lq (w + 1) L1 (by omega) (by omega) (by omega) hG1 (NLs_skip hT1 q3 (by omega) (fun q => by first | exact absurd (h_62.symm.trans q.1) (by decide) | exact absurd (h_72.symm.trans q.2) (by decide)))
                  | (refine ih_lq (w + 1) _ (by omega) (by omega) (by omega) (((hG1.set (by omega) (by omega)).set (by omega) (by omega)).set (by omega) (by omega)) (NLs_s hT1 hn q3 (by omega) hcp ?_ ?_ (fun q w1 w2 w3 => ?_) h_62 h_72)
                     · simp only [fr_setF]; split <;> simp_all
                     · rw [show o + 3 + (ordn n w * 5 + ordn n t) = o + 1 + 2 + (ordn n w * 5 + ordn n t) by omega, fr_setF, if_pos rfl, fr_setF, if_pos rfl]
                     · rw [fr_setF, if_neg (by omega), fr_setF, if_neg (by omega), fr_setF, if_neg (by omega)])
        exact lq (n + 2) t L1 (by omega) (by omega) (by omega) hG1 hT1
  refine j_aload_n C dX0_lessen_0 rfl rfl ?_
  refine g_getR C (by assumption) fl_X0_24 (by rfl) dX0_lessen_1 ?_
  refine j_aload_n C dX0_lessen_4 rfl rfl ?_
  refine g_getI C (by assumption) fl_X0_50 (by rfl) dX0_lessen_5 ?_
  refine t_i hS ?_
  refine j_iconst (v := nI 1) C dX0_lessen_8 (by decide) ?_
  first | refine n_isub C (by omega) dX0_lessen_9 ?_ | refine j_isub C dX0_lessen_9 ?_
  refine g_aald4 C (ho4) (by omega) (by decide) (by rfl) (by omega) dX0_lessen_10 ?_
  refine j_astore_n C dX0_lessen_11 rfl (by decide) ?_
  refine j_iconst (v := nI 0) C dX0_lessen_12 (by decide) ?_
  refine j_istore_n C dX0_lessen_13 rfl (by decide) ?_
  exact lp (n + 2) 0 _ (by omega) (by omega) Fm.rf (NLs_0 hM)
end
section
/-! ===== the two eliminations ===== -/
def ngO (x : Option Nat) : Int32 := match x with
  | some j => nI j
  | none => -1
theorem RelC_89 {n o : Nat} {I : II} {L : LL} {E : ES} {x y : Int32} (h : RelC n o I L E) (hn : n < 5) : RelC n o (up2 (up2 I o 8 x) o 9 y) L E :=
  h.cong hn (by rw [up2_at, up2_at]; simp) (by rw [up2_at, up2_at]; simp) (fun _ _ => rfl) (by rw [up2_ne _ (by omega), up2_ne _ (by omega)]) (fun s _ => by rw [up2_ne _ (by omega), up2_ne _ (by omega)]) (fun _ _ _ => rfl)
theorem RelC_E0 {n o a : Nat} {I : II} {L L0 : LL} (hn : n < 5) (h6 : I o 6 = nI n) (h7 : I o 7 = nI 0) (hl : ∀ k, k < 5 → I (o + 29) k = b2i (decide (k ≤ n))) (M : Nat → Nat → Fr) (hm : ∀ i j, i ≤ n → j ≤ n → fr L (o + 3 + (i * 5 + j)) = M i j) : RelC n o I L (E0 n M) :=
  ⟨h6, h7, Nat.zero_le _, hm, hl, fun s hs => absurd hs (Nat.not_lt_zero s)⟩
/-- what run() has told -/
def RunQ (n o : Nat) (M : Nat → Nat → Fr) (r : Int32) (I1 : II) (L1 : LL) : Prop := ∃ (c k : Nat) (jo : Option Nat) (E : ES), elim n (n + 1) (E0 n M) = (c, k, jo, E) ∧ r = nI c ∧ (c ≠ 2 → RelC n o I1 L1 E) ∧ (c = 0 → I1 o 8 = nI k ∧ I1 o 9 = ngO jo)

set_option maxHeartbeats 4000000 in
set_option maxRecDepth 20000 in
theorem c_X0_run (l : Launch) (G : GT) (rg : RgT) (I : II) (L : LL) (o a n : Nat) (ho : isEl rg o) (hqa : isMx rg a) (hd : a + 28 ≤ o ∨ o + 79 ≤ a) (hn : n < 5) : CtI l yX0_run cX0_run 6 (some FieldType.int) 5 G rg I L [.ref (gB G + o), .ref (gB G + a), .int (nI n)] (fun r I1 L1 => Fm o (o + 79) I I1 ∧ Fm o (o + 79) L L1 ∧ RunQ n o (fun i j => fr L (a + 2 + (i * 5 + j))) r I1 L1) := by
  refine ctI_of [some (.ref (gB G + o)), some (.ref (gB G + a)), some (.int (nI n)), none, none, none] rfl (Nat.le_of_ble_eq_true rfl) (by decide) ?_
  intro p e s m args below meth c C hr
  obtain ⟨ho1, ho2, ho3, ho4, ho5, ho6, ho7, ho8, ho9⟩ := id ho
  have lp : ∀ (fuel : Nat) (t : Nat) (I1 : II) (L1 : LL) (E : ES), n + 1 < fuel + t → t ≤ n + 1 → Fm o (o + 79) I I1 → Fm o (o + 79) L L1 → RelC n o I1 L1 E → EI n E → elim n (n + 1 - t) E = elim n (n + 1) (E0 n (fun i j => fr L (a + 2 + (i * 5 + j)))) → J p l e (rmD 5) s m args below meth c (MQ below (QI G rg (fun r I1 L1 => Fm o (o + 79) I I1 ∧ Fm o (o + 79) L L1 ∧ RunQ n o (fun i j => fr L (a + 2 + (i * 5 + j))) r I1 L1)) args s 0 0 (rg_A G rg)) 6 G rg 0 0 I1 L1 15 [some (.ref (gB G + o)), some (.ref (gB G + a)), some (.int (nI n)), some (.int (nI t)), none, none] [] := by
    intro fuel
    induction fuel with
    | zero => intro t I1 L1 E h1 h2 hFI hFL hR1 hE1 he; exfalso; omega
    | succ fuel ih_lp =>
      intro t I1 L1 E h1 h2 hFI hFL hR1 hE1 he
      refine j_iload_n C dX0_run_15 rfl rfl ?_
      refine j_aload_n C dX0_run_16 rfl rfl ?_
      refine g_getI C (by assumption) fl_X0_46 (by rfl) dX0_run_17 ?_
      refine t_i hR1.1 ?_
      first | refine n_icmp_gt (tgt := 101) C (by omega) (by omega) dX0_run_20 (by decide) (fun h_20 => ?_) (fun h_20 => ?_) | refine j_icmp_gt (tgt := 101) C dX0_run_20 (by decide) (fun h_20 => ?_) (fun h_20 => ?_)
      · refine j_iconst (v := nI 1) C dX0_run_101 (by decide) ?_
        exact j_iret C hr dX0_run_102 (⟨hFI, hFL, 1, 0, none, E, by rw [← he, show n + 1 - t = 0 by omega]; rfl, rfl, fun _ => hR1, fun h => absurd h (by decide)⟩)
      · refine j_aload_n C dX0_run_23 rfl rfl ?_
        refine j_iconst (v := (-1)) C dX0_run_24 (by decide) ?_
        refine g_cvI C vc_X0_68 (c_X0_firstLeftOfSign l G rg _ _ o n (-1) E ho hn hR1) ⟨Nat.le_of_ble_eq_true rfl, Nat.le_of_ble_eq_true rfl⟩ (ho1) rfl rfl (Nat.le_of_ble_eq_true rfl) ⟨Nat.zero_le _, Nat.zero_le _⟩ dX0_run_25 (fun r_25 I_25 L_25 p_25 => ?_)
        obtain ⟨rfl, rfl, hm_25⟩ := p_25
        rcases hff : ffo (isSg (-1) E) n (n + 1) with _ | k1
        all_goals rw [hff] at hm_25
        all_goals subst hm_25
        · refine j_istore C dX0_run_28 (by decide) ?_
          refine j_iload C dX0_run_30 rfl ?_
          refine j_iconst (v := (-1)) C dX0_run_32 (by decide) ?_
          refine j_icmp_eq (tgt := 49) C dX0_run_33 (by decide) (fun h_33 => ?_) (fun h_33 => ?_)
          · refine j_aload_n C dX0_run_49 rfl rfl ?_
            refine j_iconst (v := (1)) C dX0_run_50 (by decide) ?_
            refine g_cvI C vc_X0_68 (c_X0_firstLeftOfSign l G rg _ _ o n 1 E ho hn hR1) ⟨Nat.le_of_ble_eq_true rfl, Nat.le_of_ble_eq_true rfl⟩ (ho1) rfl rfl (Nat.le_of_ble_eq_true rfl) ⟨Nat.zero_le _, Nat.zero_le _⟩ dX0_run_51 (fun r_51 I_51 L_51 p_51 => ?_)
            obtain ⟨rfl, rfl, hm_51⟩ := p_51
            rcases hfp : ffo (isSg 1 E) n (n + 1) with _ | k2
            all_goals rw [hfp] at hm_51
            all_goals subst hm_51
            · refine j_istore C dX0_run_54 (by decide) ?_
              refine j_iload C dX0_run_56 rfl ?_
              refine j_iconst (v := (-1)) C dX0_run_58 (by decide) ?_
              refine j_icmp_ne (tgt := 75) C dX0_run_59 (by decide) (fun h_59 => ?_) (fun h_59 => ?_)
              · exact absurd rfl h_59
              · refine j_aload_n C dX0_run_62 rfl rfl ?_
                refine g_cvI C vc_X0_72 (c_X0_findPair l G rg _ _ o n E ho hn hR1) ⟨Nat.le_of_ble_eq_true rfl, Nat.le_of_ble_eq_true rfl⟩ (ho1) rfl rfl (Nat.le_of_ble_eq_true rfl) ⟨Nat.zero_le _, Nat.zero_le _⟩ dX0_run_63 (fun r_63 I_63 L_63 p_63 => ?_)
                obtain ⟨rfl, hm_63⟩ := p_63
                rcases hpr : ffp (isPr E) n (n + 1) with _ | ⟨pi, pj⟩
                all_goals rw [hpr] at hm_63
                all_goals obtain ⟨rfl, rfl⟩ := hm_63
                · refine j_if_eq (tgt := 73) C dX0_run_66 (by decide) (fun h_66 => ?_) (fun h_66 => ?_)
                  · refine j_iconst (v := nI 1) C dX0_run_73 (by decide) ?_
                    exact j_iret C hr dX0_run_74 (by first | exact ⟨hFI, hFL, 1, 0, none, E, by rw [← he, show n + 1 - t = (n - t) + 1 by omega, elim_done hff hfp hpr], rfl, fun _ => hR1, fun h => absurd h (by decide)⟩ | exact ⟨up2_I (up2_I hFI (by omega) (by omega)) (by omega) (by omega), hFL, 0, pi, some pj, E, by rw [← he, show n + 1 - t = (n - t) + 1 by omega, elim_pair hff hfp hpr], rfl, fun _ => RelC_89 hR1 hn, fun _ => ⟨by rw [up2_at, up2_at]; simp, by rw [up2_at]; simp [ngO]⟩⟩)
                  · exact absurd rfl h_66
                · refine j_if_eq (tgt := 73) C dX0_run_66 (by decide) (fun h_66 => ?_) (fun h_66 => ?_)
                  · exact absurd h_66 (by decide)
                  · refine j_iconst (v := nI 0) C dX0_run_69 (by decide) ?_
                    refine j_goto (tgt := 74) C dX0_run_70 (by decide) ?_
                    exact j_iret C hr dX0_run_74 (by first | exact ⟨hFI, hFL, 1, 0, none, E, by rw [← he, show n + 1 - t = (n - t) + 1 by omega, elim_done hff hfp hpr], rfl, fun _ => hR1, fun h => absurd h (by decide)⟩ | exact ⟨up2_I (up2_I hFI (by omega) (by omega)) (by omega) (by omega), hFL, 0, pi, some pj, E, by rw [← he, show n + 1 - t = (n - t) + 1 by omega, elim_pair hff hfp hpr], rfl, fun _ => RelC_89 hR1 hn, fun _ => ⟨by rw [up2_at, up2_at]; simp, by rw [up2_at]; simp [ngO]⟩⟩)
            · have hk2 := (ffo_some hfp).1
              have hsl := isSg_L (ffo_some hfp).2
              have hs5 := EI_lt hE1 hk2 hsl.1
              refine j_istore C dX0_run_54 (by decide) ?_
              refine j_iload C dX0_run_56 rfl ?_
              refine j_iconst (v := (-1)) C dX0_run_58 (by decide) ?_
              refine j_icmp_ne (tgt := 75) C dX0_run_59 (by decide) (fun h_59 => ?_) (fun h_59 => ?_)
              · refine j_aload_n C dX0_run_75 rfl rfl ?_
                refine j_iload C dX0_run_76 rfl ?_
                refine g_cvI C vc_X0_76 (c_X0_makeSquare l G rg _ _ o n k2 E ho hn hk2 hR1 (by omega) hE1.1 (by rw [hsl.2]; decide)) ⟨Nat.le_of_ble_eq_true rfl, Nat.le_of_ble_eq_true rfl⟩ (ho1) rfl rfl (Nat.le_of_ble_eq_true rfl) ⟨Nat.zero_le _, Nat.zero_le _⟩ dX0_run_78 (fun r_78 I_78 L_78 p_78 => ?_)
                obtain ⟨hF78, hG78, ⟨rfl, hrw, hRm⟩ | ⟨rfl, hrw⟩⟩ := p_78
                · refine j_if_eq (tgt := 93) C dX0_run_81 (by decide) (fun h_81 => ?_) (fun h_81 => ?_)
                  · exact absurd h_81 (by decide)
                  · refine j_aload_n C dX0_run_84 rfl rfl ?_
                    refine j_iload C dX0_run_85 rfl ?_
                    refine g_cvI C vc_X0_80 (c_X0_lessen l G rg _ _ o n k2 (midE E k2) ho hn hk2 hRm (Nat.succ_le_succ (Nat.zero_le _)) (va_up_self _ _ _)) ⟨Nat.le_of_ble_eq_true rfl, Nat.le_of_ble_eq_true rfl⟩ (ho1) rfl rfl (Nat.le_of_ble_eq_true rfl) ⟨Nat.zero_le _, Nat.zero_le _⟩ dX0_run_87 (fun r_87 I_87 L_87 p_87 => ?_)
                    obtain ⟨rfl, hG87, ⟨rfl, hls, hRl⟩ | ⟨rfl, hls⟩⟩ := p_87
                    · refine j_if_ne (tgt := 95) C dX0_run_90 (by decide) (fun h_90 => ?_) (fun h_90 => ?_)
                      · first | refine n_iinc (n := 1) C dX0_run_95 rfl (by decide) ?_ | refine j_iinc C dX0_run_95 rfl rfl (by decide) ?_
                        refine j_goto (tgt := 15) C dX0_run_98 (by decide) ?_
                        refine j_rm 4 ?_
                        refine j_rm 5 ?_
                        exact ih_lp (t + 1) _ _ (lsE n (midE E k2) k2) (by omega) (by omega) (hFI.trans hF78) ((hFL.trans hG78).trans (hG87.mono (by omega) (by omega))) hRl (EI_s hE1 hk2 hsl.1 (pvO_some hrw hls)) (by rw [← he, show n + 1 - t = (n - t) + 1 by omega, elim_go hff hfp (pvO_some hrw hls), show n + 1 - (t + 1) = n - t by omega])
                      · exact absurd h_90 (by decide)
                    · refine j_if_ne (tgt := 95) C dX0_run_90 (by decide) (fun h_90 => ?_) (fun h_90 => ?_)
                      · exact absurd rfl h_90
                      · refine j_iconst (v := nI 2) C dX0_run_93 (by decide) ?_
                        exact j_iret C hr dX0_run_94 (by first | exact ⟨hFI.trans hF78, (hFL.trans hG78).trans (hG87.mono (by omega) (by omega)), 2, 0, none, E, by rw [← he, show n + 1 - t = (n - t) + 1 by omega, elim_long hff hfp (pvO_none2 hls)], rfl, fun h => absurd rfl h, fun h => absurd h (by decide)⟩ | exact ⟨hFI.trans hF78, hFL.trans hG78, 2, 0, none, E, by rw [← he, show n + 1 - t = (n - t) + 1 by omega, elim_long hff hfp (pvO_none1 hrw)], rfl, fun h => absurd rfl h, fun h => absurd h (by decide)⟩)
                · refine j_if_eq (tgt := 93) C dX0_run_81 (by decide) (fun h_81 => ?_) (fun h_81 => ?_)
                  · refine j_iconst (v := nI 2) C dX0_run_93 (by decide) ?_
                    exact j_iret C hr dX0_run_94 (by first | exact ⟨hFI.trans hF78, (hFL.trans hG78).trans (hG87.mono (by omega) (by omega)), 2, 0, none, E, by rw [← he, show n + 1 - t = (n - t) + 1 by omega, elim_long hff hfp (pvO_none2 hls)], rfl, fun h => absurd rfl h, fun h => absurd h (by decide)⟩ | exact ⟨hFI.trans hF78, hFL.trans hG78, 2, 0, none, E, by rw [← he, show n + 1 - t = (n - t) + 1 by omega, elim_long hff hfp (pvO_none1 hrw)], rfl, fun h => absurd rfl h, fun h => absurd h (by decide)⟩)
                  · exact absurd rfl h_81
              · exact absurd h_59 (nI_m1 (by omega))
          · exact absurd rfl h_33
        · have hk1 := (ffo_some hff).1
          refine j_istore C dX0_run_28 (by decide) ?_
          refine j_iload C dX0_run_30 rfl ?_
          refine j_iconst (v := (-1)) C dX0_run_32 (by decide) ?_
          refine j_icmp_eq (tgt := 49) C dX0_run_33 (by decide) (fun h_33 => ?_) (fun h_33 => ?_)
          · exact absurd h_33 (nI_m1 (by omega))
          · refine j_aload_n C dX0_run_36 rfl rfl ?_
            refine j_iload C dX0_run_37 rfl ?_
            refine g_putI C (by assumption) fw_X0_53 (by rfl) rfl (fits_int _) dX0_run_39 ?_
            refine j_aload_n C dX0_run_42 rfl rfl ?_
            refine j_iconst (v := (-1)) C dX0_run_43 (by decide) ?_
            refine g_putI C (by assumption) fw_X0_56 (by rfl) rfl (fits_int _) dX0_run_44 ?_
            refine j_iconst (v := nI 0) C dX0_run_47 (by decide) ?_
            exact j_iret C hr dX0_run_48 (⟨up2_I (up2_I hFI (by omega) (by omega)) (by omega) (by omega), hFL, 0, k1, none, E, by rw [← he, show n + 1 - t = (n - t) + 1 by omega, elim_neg hff], rfl, fun _ => RelC_89 hR1 hn, fun _ => ⟨by rw [up2_at, up2_at]; simp, by rw [up2_at]; simp [ngO]⟩⟩)
  refine j_aload_n C dX0_run_0 rfl rfl ?_
  refine g_getR C (by assumption) fl_X0_12 (by rfl) dX0_run_1 ?_
  refine j_aload_n C dX0_run_4 rfl rfl ?_
  refine g_cvV C vc_X0_60 (c_X3_copy l G rg _ _ (o + 1) a ho2 hqa (by omega)) ⟨Nat.le_of_ble_eq_true rfl, Nat.le_of_ble_eq_true rfl⟩ (ho2.1) rfl rfl (Nat.le_of_ble_eq_true rfl) ⟨Nat.zero_le _, Nat.zero_le _⟩ dX0_run_5 (fun I_5 L_5 p_5 => ?_)
  obtain ⟨rfl, hF5, hC5⟩ := p_5
  refine j_aload_n C dX0_run_8 rfl rfl ?_
  refine j_iload_n C dX0_run_9 rfl rfl ?_
  refine g_cvV C vc_X0_64 (c_X0_start l G rg _ _ o n ho hn) ⟨Nat.le_of_ble_eq_true rfl, Nat.le_of_ble_eq_true rfl⟩ (ho1) rfl rfl (Nat.le_of_ble_eq_true rfl) ⟨Nat.zero_le _, Nat.zero_le _⟩ dX0_run_10 (fun I_10 L_10 p_10 => ?_)
  obtain ⟨hF10, rfl, hN10, hS10, hL10⟩ := p_10
  refine j_iconst (v := nI 0) C dX0_run_13 (by decide) ?_
  refine j_istore_n C dX0_run_14 rfl (by decide) ?_
  exact lp (n + 2) 0 _ _ (E0 n (fun i j => fr L (a + 2 + (i * 5 + j)))) (by omega) (by omega) hF10 (hF5.mono (by omega) (by omega)) (RelC_E0 (a := a) (L0 := L) hn hN10 hS10 hL10 _ (fun i j hi hj => hC5 (i * 5 + j) (by omega))) (EI_0 n _) rfl

set_option maxHeartbeats 4000000 in
set_option maxRecDepth 20000 in
theorem c_X0_runWithoutLooking (l : Launch) (G : GT) (rg : RgT) (I : II) (L : LL) (o fo n : Nat) (ho : isEl rg o) (hf : isFm rg fo) (hn : n < 5) : CtI l yX0_runWithoutLooking cX0_runWithoutLooking 7 (some FieldType.int) 5 G rg I L [.ref (gB G + o), .ref (gB G + fo), .int (nI n)] (fun r I1 L1 => Fm o (o + 79) I I1 ∧ Fm o (o + 79) L L1 ∧ r = plainF n (n + 1) 0 0 (E0 n (fun i j => hv (I (fo + 1) (ix i j)) i j))) := by
  refine ctI_of [some (.ref (gB G + o)), some (.ref (gB G + fo)), some (.int (nI n)), none, none, none, none] rfl (Nat.le_of_ble_eq_true rfl) (by decide) ?_
  intro p e s m args below meth c C hr
  obtain ⟨ho1, ho2, ho3, ho4, ho5, ho6, ho7, ho8, ho9⟩ := id ho
  have lp : ∀ (fuel : Nat) (t ab : Nat) (I1 : II) (L1 : LL) (E : ES), n + 1 < fuel + t → t ≤ n + 1 → Fm o (o + 79) I I1 → Fm o (o + 79) L L1 → RelC n o I1 L1 E → EI n E → (∀ q, t ≤ q → q ≤ n → eL E (ordn n q) = true) → plainF n (n + 1 - t) t ab E = plainF n (n + 1) 0 0 (E0 n (fun i j => hv (I (fo + 1) (ix i j)) i j)) → J p l e (rmD 5) s m args below meth c (MQ below (QI G rg (fun r I1 L1 => Fm o (o + 79) I I1 ∧ Fm o (o + 79) L L1 ∧ r = plainF n (n + 1) 0 0 (E0 n (fun i j => hv (I (fo + 1) (ix i j)) i j)))) args s 0 0 (rg_A G rg)) 7 G rg 0 0 I1 L1 19 [some (.ref (gB G + o)), some (.ref (gB G + fo)), some (.int (nI n)), some (.int (nI ab)), some (.int (nI t)), none, none] [] := by
    intro fuel
    induction fuel with
    | zero => intro t ab I1 L1 E h1 h2 hFI hFL hR1 hE1 hLt he; exfalso; omega
    | succ fuel ih_lp =>
      intro t ab I1 L1 E h1 h2 hFI hFL hR1 hE1 hLt he
      refine j_iload C dX0_runWithoutLooking_19 rfl ?_
      refine j_aload_n C dX0_runWithoutLooking_21 rfl rfl ?_
      refine g_getI C (by assumption) fl_X0_46 (by rfl) dX0_runWithoutLooking_22 ?_
      refine t_i hR1.1 ?_
      first | refine n_icmp_gt (tgt := 101) C (by omega) (by omega) dX0_runWithoutLooking_25 (by decide) (fun h_25 => ?_) (fun h_25 => ?_) | refine j_icmp_gt (tgt := 101) C dX0_runWithoutLooking_25 (by decide) (fun h_25 => ?_) (fun h_25 => ?_)
      · refine j_iload_n C dX0_runWithoutLooking_101 rfl rfl ?_
        exact j_iret C hr dX0_runWithoutLooking_102 (⟨hFI, hFL, by rw [← he, show n + 1 - t = 0 by omega]; rfl⟩)
      · refine j_iload C dX0_runWithoutLooking_28 rfl ?_
        refine j_aload_n C dX0_runWithoutLooking_30 rfl rfl ?_
        refine g_getI C (by assumption) fl_X0_46 (by rfl) dX0_runWithoutLooking_31 ?_
        refine t_i hR1.1 ?_
        refine j_csI C sc_X0_87 (c_X6_inOrder l G rg _ _ _ _ (by omega) (by omega)) ⟨Nat.le_of_ble_eq_true rfl, Nat.le_of_ble_eq_true rfl⟩ rfl rfl (Nat.le_of_ble_eq_true rfl) ⟨Nat.zero_le _, Nat.zero_le _⟩ dX0_runWithoutLooking_34 (fun r_34 I_34 L_34 p_34 => ?_)
        obtain ⟨rfl, rfl, rfl⟩ := p_34
        have o1 := ordn_le n t
        have hlt := hLt t (Nat.le_refl t) h_25
        have hs5 := EI_lt hE1 o1 hlt
        refine j_istore C dX0_runWithoutLooking_37 (by decide) ?_
        refine j_aload_n C dX0_runWithoutLooking_39 rfl rfl ?_
        refine g_getR C (by assumption) fl_X0_12 (by rfl) dX0_runWithoutLooking_40 ?_
        refine j_iload C dX0_runWithoutLooking_43 rfl ?_
        refine j_iload C dX0_runWithoutLooking_45 rfl ?_
        refine g_cvR C vc_X0_91 (c_X3_at l G rg _ _ _ _ _ ho2 (by omega) (by omega)) ⟨Nat.le_of_ble_eq_true rfl, Nat.le_of_ble_eq_true rfl⟩ (ho2.1) rfl rfl (Nat.le_of_ble_eq_true rfl) ⟨Nat.zero_le _, Nat.zero_le _⟩ dX0_runWithoutLooking_47 (fun r_47 I_47 L_47 p_47 => ?_)
        obtain ⟨rfl, rfl, rfl⟩ := p_47
        have hFk : isF rg (o + 1 + 2 + (ordn n t * 5 + ordn n t)) := ho2.2.2 _ (by omega)
        refine g_cvI C vc_X0_95 (c_X2_sign l G rg _ _ _ hFk) ⟨Nat.le_of_ble_eq_true rfl, Nat.le_of_ble_eq_true rfl⟩ (hFk) rfl rfl (Nat.le_of_ble_eq_true rfl) ⟨Nat.zero_le _, Nat.zero_le _⟩ dX0_runWithoutLooking_50 (fun r_50 I_50 L_50 p_50 => ?_)
        obtain ⟨rfl, rfl, rfl⟩ := p_50
        rw [show L1 (o + 1 + 2 + (ordn n t * 5 + ordn n t)) 0 = (eM E (ordn n t) (ordn n t)).1 from congrArg Prod.fst (hR1.2.2.2.1 (ordn n t) (ordn n t) (by omega) (by omega))]
        refine j_istore C dX0_runWithoutLooking_53 (by decide) ?_
        refine j_iload C dX0_runWithoutLooking_55 rfl ?_
        refine j_if_ne (tgt := 66) C dX0_runWithoutLooking_57 (by decide) (fun h_57 => ?_) (fun h_57 => ?_)
        · refine j_iload C dX0_runWithoutLooking_66 rfl ?_
          refine j_if_le (tgt := 74) C dX0_runWithoutLooking_68 (by decide) (fun h_68 => ?_) (fun h_68 => ?_)
          · refine j_aload_n C dX0_runWithoutLooking_74 rfl rfl ?_
            refine j_iload C dX0_runWithoutLooking_75 rfl ?_
            refine g_cvI C vc_X0_76 (c_X0_makeSquare l G rg _ _ o n (ordn n t) E ho hn o1 hR1 (by omega) hE1.1 h_57) ⟨Nat.le_of_ble_eq_true rfl, Nat.le_of_ble_eq_true rfl⟩ (ho1) rfl rfl (Nat.le_of_ble_eq_true rfl) ⟨Nat.zero_le _, Nat.zero_le _⟩ dX0_runWithoutLooking_77 (fun r_77 I_77 L_77 p_77 => ?_)
            obtain ⟨hF78, hG78, ⟨rfl, hrw, hRm⟩ | ⟨rfl, hrw⟩⟩ := p_77
            · refine j_if_eq (tgt := 92) C dX0_runWithoutLooking_80 (by decide) (fun h_80 => ?_) (fun h_80 => ?_)
              · exact absurd h_80 (by decide)
              · refine j_aload_n C dX0_runWithoutLooking_83 rfl rfl ?_
                refine j_iload C dX0_runWithoutLooking_84 rfl ?_
                refine g_cvI C vc_X0_80 (c_X0_lessen l G rg _ _ o n (ordn n t) (midE E (ordn n t)) ho hn o1 hRm (Nat.succ_le_succ (Nat.zero_le _)) (va_up_self _ _ _)) ⟨Nat.le_of_ble_eq_true rfl, Nat.le_of_ble_eq_true rfl⟩ (ho1) rfl rfl (Nat.le_of_ble_eq_true rfl) ⟨Nat.zero_le _, Nat.zero_le _⟩ dX0_runWithoutLooking_86 (fun r_86 I_86 L_86 p_86 => ?_)
                obtain ⟨rfl, hG87, ⟨rfl, hls, hRl⟩ | ⟨rfl, hls⟩⟩ := p_86
                · refine j_if_ne (tgt := 95) C dX0_runWithoutLooking_89 (by decide) (fun h_89 => ?_) (fun h_89 => ?_)
                  · first | refine n_iinc (n := 1) C dX0_runWithoutLooking_95 rfl (by decide) ?_ | refine j_iinc C dX0_runWithoutLooking_95 rfl rfl (by decide) ?_
                    refine j_goto (tgt := 19) C dX0_runWithoutLooking_98 (by decide) ?_
                    refine j_rm 5 ?_
                    refine j_rm 6 ?_
                    first
                    | exact ih_lp (t + 1) ab _ _ (lsE n (midE E (ordn n t)) (ordn n t)) (by omega) (by omega) (hFI.trans hF78) ((hFL.trans hG78).trans (hG87.mono (by omega) (by omega))) hRl (EI_s hE1 o1 hlt (pvO_some hrw hls)) (fun q q1 q2 => by show va_up (eL E) (ordn n t) false (ordn n q) = true; rw [va_up_ne _ _ (fun z => by have := ordn_inj q2 (show t ≤ n by omega) z; omega)]; exact hLt q (by omega) q2) (by rw [← he, show n + 1 - t = (n - t) + 1 by omega, plainF, if_neg h_57, pvO_some hrw hls, if_neg (by rw [Int32.not_lt]; exact h_68), show n + 1 - (t + 1) = n - t by omega])
                    | exact ih_lp (t + 1) (ab + 1) _ _ (lsE n (midE E (ordn n t)) (ordn n t)) (by omega) (by omega) (hFI.trans hF78) ((hFL.trans hG78).trans (hG87.mono (by omega) (by omega))) hRl (EI_s hE1 o1 hlt (pvO_some hrw hls)) (fun q q1 q2 => by show va_up (eL E) (ordn n t) false (ordn n q) = true; rw [va_up_ne _ _ (fun z => by have := ordn_inj q2 (show t ≤ n by omega) z; omega)]; exact hLt q (by omega) q2) (by rw [← he, show n + 1 - t = (n - t) + 1 by omega, plainF, if_neg h_57, pvO_some hrw hls, if_pos (by rw [← Int32.not_le]; exact h_68), show n + 1 - (t + 1) = n - t by omega])
                  · exact absurd h_89 (by decide)
                · refine j_if_ne (tgt := 95) C dX0_runWithoutLooking_89 (by decide) (fun h_89 => ?_) (fun h_89 => ?_)
                  · exact absurd rfl h_89
                  · refine j_bipush (v := (-30)) C dX0_runWithoutLooking_92 (by decide) ?_
                    exact j_iret C hr dX0_runWithoutLooking_94 (by first | exact ⟨hFI.trans hF78, (hFL.trans hG78).trans (hG87.mono (by omega) (by omega)), by rw [← he, show n + 1 - t = (n - t) + 1 by omega, plainF, if_neg h_57, pvO_none2 hls]⟩ | exact ⟨hFI.trans hF78, hFL.trans hG78, by rw [← he, show n + 1 - t = (n - t) + 1 by omega, plainF, if_neg h_57, pvO_none1 hrw]⟩)
            · refine j_if_eq (tgt := 92) C dX0_runWithoutLooking_80 (by decide) (fun h_80 => ?_) (fun h_80 => ?_)
              · refine j_bipush (v := (-30)) C dX0_runWithoutLooking_92 (by decide) ?_
                exact j_iret C hr dX0_runWithoutLooking_94 (by first | exact ⟨hFI.trans hF78, (hFL.trans hG78).trans (hG87.mono (by omega) (by omega)), by rw [← he, show n + 1 - t = (n - t) + 1 by omega, plainF, if_neg h_57, pvO_none2 hls]⟩ | exact ⟨hFI.trans hF78, hFL.trans hG78, by rw [← he, show n + 1 - t = (n - t) + 1 by omega, plainF, if_neg h_57, pvO_none1 hrw]⟩)
              · exact absurd rfl h_80
          · first | refine n_iinc (n := 1) C dX0_runWithoutLooking_71 rfl (by decide) ?_ | refine j_iinc C dX0_runWithoutLooking_71 rfl rfl (by decide) ?_
            refine j_aload_n C dX0_runWithoutLooking_74 rfl rfl ?_
            refine j_iload C dX0_runWithoutLooking_75 rfl ?_
            refine g_cvI C vc_X0_76 (c_X0_makeSquare l G rg _ _ o n (ordn n t) E ho hn o1 hR1 (by omega) hE1.1 h_57) ⟨Nat.le_of_ble_eq_true rfl, Nat.le_of_ble_eq_true rfl⟩ (ho1) rfl rfl (Nat.le_of_ble_eq_true rfl) ⟨Nat.zero_le _, Nat.zero_le _⟩ dX0_runWithoutLooking_77 (fun r_77 I_77 L_77 p_77 => ?_)
            obtain ⟨hF78, hG78, ⟨rfl, hrw, hRm⟩ | ⟨rfl, hrw⟩⟩ := p_77
            · refine j_if_eq (tgt := 92) C dX0_runWithoutLooking_80 (by decide) (fun h_80 => ?_) (fun h_80 => ?_)
              · exact absurd h_80 (by decide)
              · refine j_aload_n C dX0_runWithoutLooking_83 rfl rfl ?_
                refine j_iload C dX0_runWithoutLooking_84 rfl ?_
                refine g_cvI C vc_X0_80 (c_X0_lessen l G rg _ _ o n (ordn n t) (midE E (ordn n t)) ho hn o1 hRm (Nat.succ_le_succ (Nat.zero_le _)) (va_up_self _ _ _)) ⟨Nat.le_of_ble_eq_true rfl, Nat.le_of_ble_eq_true rfl⟩ (ho1) rfl rfl (Nat.le_of_ble_eq_true rfl) ⟨Nat.zero_le _, Nat.zero_le _⟩ dX0_runWithoutLooking_86 (fun r_86 I_86 L_86 p_86 => ?_)
                obtain ⟨rfl, hG87, ⟨rfl, hls, hRl⟩ | ⟨rfl, hls⟩⟩ := p_86
                · refine j_if_ne (tgt := 95) C dX0_runWithoutLooking_89 (by decide) (fun h_89 => ?_) (fun h_89 => ?_)
                  · first | refine n_iinc (n := 1) C dX0_runWithoutLooking_95 rfl (by decide) ?_ | refine j_iinc C dX0_runWithoutLooking_95 rfl rfl (by decide) ?_
                    refine j_goto (tgt := 19) C dX0_runWithoutLooking_98 (by decide) ?_
                    refine j_rm 5 ?_
                    refine j_rm 6 ?_
                    first
                    | exact ih_lp (t + 1) ab _ _ (lsE n (midE E (ordn n t)) (ordn n t)) (by omega) (by omega) (hFI.trans hF78) ((hFL.trans hG78).trans (hG87.mono (by omega) (by omega))) hRl (EI_s hE1 o1 hlt (pvO_some hrw hls)) (fun q q1 q2 => by show va_up (eL E) (ordn n t) false (ordn n q) = true; rw [va_up_ne _ _ (fun z => by have := ordn_inj q2 (show t ≤ n by omega) z; omega)]; exact hLt q (by omega) q2) (by rw [← he, show n + 1 - t = (n - t) + 1 by omega, plainF, if_neg h_57, pvO_some hrw hls, if_neg (by rw [Int32.not_lt]; exact h_68), show n + 1 - (t + 1) = n - t by omega])
                    | exact ih_lp (t + 1) (ab + 1) _ _ (lsE n (midE E (ordn n t)) (ordn n t)) (by omega) (by omega) (hFI.trans hF78) ((hFL.trans hG78).trans (hG87.mono (by omega) (by omega))) hRl (EI_s hE1 o1 hlt (pvO_some hrw hls)) (fun q q1 q2 => by show va_up (eL E) (ordn n t) false (ordn n q) = true; rw [va_up_ne _ _ (fun z => by have := ordn_inj q2 (show t ≤ n by omega) z; omega)]; exact hLt q (by omega) q2) (by rw [← he, show n + 1 - t = (n - t) + 1 by omega, plainF, if_neg h_57, pvO_some hrw hls, if_pos (by rw [← Int32.not_le]; exact h_68), show n + 1 - (t + 1) = n - t by omega])
                  · exact absurd h_89 (by decide)
                · refine j_if_ne (tgt := 95) C dX0_runWithoutLooking_89 (by decide) (fun h_89 => ?_) (fun h_89 => ?_)
                  · exact absurd rfl h_89
                  · refine j_bipush (v := (-30)) C dX0_runWithoutLooking_92 (by decide) ?_
                    exact j_iret C hr dX0_runWithoutLooking_94 (by first | exact ⟨hFI.trans hF78, (hFL.trans hG78).trans (hG87.mono (by omega) (by omega)), by rw [← he, show n + 1 - t = (n - t) + 1 by omega, plainF, if_neg h_57, pvO_none2 hls]⟩ | exact ⟨hFI.trans hF78, hFL.trans hG78, by rw [← he, show n + 1 - t = (n - t) + 1 by omega, plainF, if_neg h_57, pvO_none1 hrw]⟩)
            · refine j_if_eq (tgt := 92) C dX0_runWithoutLooking_80 (by decide) (fun h_80 => ?_) (fun h_80 => ?_)
              · refine j_bipush (v := (-30)) C dX0_runWithoutLooking_92 (by decide) ?_
                exact j_iret C hr dX0_runWithoutLooking_94 (by first | exact ⟨hFI.trans hF78, (hFL.trans hG78).trans (hG87.mono (by omega) (by omega)), by rw [← he, show n + 1 - t = (n - t) + 1 by omega, plainF, if_neg h_57, pvO_none2 hls]⟩ | exact ⟨hFI.trans hF78, hFL.trans hG78, by rw [← he, show n + 1 - t = (n - t) + 1 by omega, plainF, if_neg h_57, pvO_none1 hrw]⟩)
              · exact absurd rfl h_80
        · refine j_bipush (v := (-10)) C dX0_runWithoutLooking_60 (by decide) ?_
          refine j_iload C dX0_runWithoutLooking_62 rfl ?_
          first | refine n_isub C (by omega) dX0_runWithoutLooking_64 ?_ | refine j_isub C dX0_runWithoutLooking_64 ?_
          exact j_iret C hr dX0_runWithoutLooking_65 (⟨hFI, hFL, by rw [← he, show n + 1 - t = (n - t) + 1 by omega, plainF, if_pos h_57]⟩)
  refine j_aload_n C dX0_runWithoutLooking_0 rfl rfl ?_
  refine g_getR C (by assumption) fl_X0_12 (by rfl) dX0_runWithoutLooking_1 ?_
  refine j_aload_n C dX0_runWithoutLooking_4 rfl rfl ?_
  refine j_iload_n C dX0_runWithoutLooking_5 rfl rfl ?_
  refine g_cvV C vc_X0_83 (c_X3_take l G rg _ _ (o + 1) fo n ho2 hf hn) ⟨Nat.le_of_ble_eq_true rfl, Nat.le_of_ble_eq_true rfl⟩ (ho2.1) rfl rfl (Nat.le_of_ble_eq_true rfl) ⟨Nat.zero_le _, Nat.zero_le _⟩ dX0_runWithoutLooking_6 (fun I_6 L_6 p_6 => ?_)
  obtain ⟨rfl, hF5, hC5⟩ := p_6
  refine j_aload_n C dX0_runWithoutLooking_9 rfl rfl ?_
  refine j_iload_n C dX0_runWithoutLooking_10 rfl rfl ?_
  refine g_cvV C vc_X0_64 (c_X0_start l G rg _ _ o n ho hn) ⟨Nat.le_of_ble_eq_true rfl, Nat.le_of_ble_eq_true rfl⟩ (ho1) rfl rfl (Nat.le_of_ble_eq_true rfl) ⟨Nat.zero_le _, Nat.zero_le _⟩ dX0_runWithoutLooking_11 (fun I_11 L_11 p_11 => ?_)
  obtain ⟨hF10, rfl, hN10, hS10, hL10⟩ := p_11
  refine j_iconst (v := nI 0) C dX0_runWithoutLooking_14 (by decide) ?_
  refine j_istore_n C dX0_runWithoutLooking_15 rfl (by decide) ?_
  refine j_iconst (v := nI 0) C dX0_runWithoutLooking_16 (by decide) ?_
  refine j_istore C dX0_runWithoutLooking_17 (by decide) ?_
  exact lp (n + 2) 0 0 _ _ (E0 n (fun i j => hv (I (fo + 1) (ix i j)) i j)) (by omega) (by omega) hF10 (hF5.mono (by omega) (by omega)) (RelC_E0 (a := 0) (L0 := L) hn hN10 hS10 hL10 _ (fun i j hi hj => hC5 i j hi hj (by omega))) (EI_0 n _) (fun q _ q2 => decide_eq_true (ordn_le n q)) rfl
end
section
/-! ===== fractions in lowest terms ===== -/
def WF (x : Fr) : Prop := x.1 ≠ LEA ∧ 0 < x.2.toInt ∧ gcdN x.1 x.2 = 1
theorem WF.ne2 {x : Fr} (h : WF x) : x.2 ≠ LEA := by rw [ne_LEA]; have := h.2.1; omega
theorem WF.n0 {x : Fr} (h : WF x) : ¬ x.2 = 0 := fun q => by have := h.2.1; rw [q, i64_0] at this; omega
theorem WF.pos {x : Fr} (h : WF x) : 0 ≤ x.2 := by rw [Int64.le_iff_toInt_le, i64_0]; have := h.2.1; omega
theorem natAbs_tdiv_dvd {a : Int} {g : Nat} (hg : g ∣ a.natAbs) : (a.tdiv g).natAbs = a.natAbs / g := by rw [Int.natAbs_tdiv]; rfl
theorem lN_I {g : Nat} (h : g < 2 ^ 63) : (lN g).toInt = (g : Int) := pk_lT h
theorem div_g {u : Int64} {g : Nat} (hu : u ≠ LEA) (hg : g < 2 ^ 63) : (u / lN g).toInt = u.toInt.tdiv g := by
  rw [Int64.toInt_div_of_ne_left _ _ (fun q => hu (q.trans (by decide))), lN_I hg]
theorem div_ng {u : Int64} {g : Nat} (hu : u ≠ LEA) (hg : g < 2 ^ 63) : (u / -lN g).toInt = -(u.toInt.tdiv g) := by
  rw [Int64.toInt_div_of_ne_left _ _ (fun q => hu (q.trans (by decide))), neg_in (by rw [ne_LEA, lN_I hg]; omega), lN_I hg, Int.tdiv_neg]
theorem red_WF {u v : Int64} (hu : u ≠ LEA) (hv : v ≠ LEA) (h0 : ¬ v = 0) : WF (red u v) := by
  have hg := gcdN_lt hu hv
  have hg0 : 0 < gcdN u v := Nat.pos_of_ne_zero (fun q => gcd_n0 hu hv h0 (by rw [q]; rfl))
  have d1 : gcdN u v ∣ u.toInt.natAbs := Nat.gcd_dvd_left _ _
  have d2 : gcdN u v ∣ v.toInt.natAbs := Nat.gcd_dvd_right _ _
  have hl := ne_LEA.mp hu
  have hh := i64_hi u
  have hv0 := ne0_int h0
  have e1 : (u.toInt.tdiv (gcdN u v)).natAbs = u.toInt.natAbs / gcdN u v := natAbs_tdiv_dvd d1
  have e2 : (v.toInt.tdiv (gcdN u v)).natAbs = v.toInt.natAbs / gcdN u v := natAbs_tdiv_dvd d2
  have hle : u.toInt.natAbs / gcdN u v ≤ u.toInt.natAbs := Nat.div_le_self _ _
  have hp2 : 0 < v.toInt.natAbs / gcdN u v := Nat.div_pos (Nat.le_of_dvd (by omega) d2) hg0
  have hgc : Nat.gcd (u.toInt.natAbs / gcdN u v) (v.toInt.natAbs / gcdN u v) = 1 := by
    rw [Nat.gcd_div d1 d2]
    exact Nat.div_self hg0
  by_cases hp : 0 ≤ v
  · rw [red_p hp]
    have hvp : 0 ≤ v.toInt := by rw [Int64.le_iff_toInt_le, i64_0] at hp; exact hp
    have ht : 0 ≤ v.toInt.tdiv (gcdN u v) := Int.tdiv_nonneg hvp (by omega)
    refine ⟨?_, ?_, ?_⟩
    · show u / lN (gcdN u v) ≠ LEA
      rw [ne_LEA, div_g hu hg]; omega
    · show 0 < (v / lN (gcdN u v)).toInt
      rw [div_g hv hg]; omega
    · show gcdN (u / lN (gcdN u v)) (v / lN (gcdN u v)) = 1
      rw [gcdN, absN, absN, div_g hu hg, div_g hv hg, e1, e2]
      exact hgc
  · rw [red_n hp]
    have hvp : v.toInt < 0 := by rw [Int64.le_iff_toInt_le, i64_0] at hp; omega
    have ht : v.toInt.tdiv (gcdN u v) ≤ 0 := by
      have := Int.tdiv_nonneg (a := -v.toInt) (b := (gcdN u v : Int)) (by omega) (by omega)
      rw [Int.neg_tdiv] at this
      omega
    refine ⟨?_, ?_, ?_⟩
    · show u / -lN (gcdN u v) ≠ LEA
      rw [ne_LEA, div_ng hu hg]; omega
    · show 0 < (v / -lN (gcdN u v)).toInt
      rw [div_ng hv hg]; omega
    · show gcdN (u / -lN (gcdN u v)) (v / -lN (gcdN u v)) = 1
      rw [gcdN, absN, absN, div_ng hu hg, div_ng hv hg, Int.natAbs_neg, Int.natAbs_neg, e1, e2]
      exact hgc
theorem div_1 (u : Int64) : u / lN 1 = u := by
  apply Int64.toInt_inj.mp
  rw [Int64.toInt_div_of_ne_right _ _ (by decide), lN_I (by decide)]
  simp
theorem red_id {x : Fr} (h : WF x) : red x.1 x.2 = x := by
  rw [red_p h.pos, h.2.2, div_1, div_1]
theorem fPut_WF {a b : Option Int64} {z : Fr} (ha : ∀ u, a = some u → u ≠ LEA) (hb : ∀ u, b = some u → u ≠ LEA) (h : fPut a b = some z) : WF z := by
  cases a with
  | none => cases h
  | some u => cases b with
    | none => cases h
    | some v =>
      by_cases h0 : v = 0
      · rw [fPut, if_pos h0] at h; cases h
      · rw [fPut, if_neg h0] at h
        cases h
        exact red_WF (ha u rfl) (hb v rfl) h0
theorem addOO_ne {x y : Option Int64} : ∀ u, addOO x y = some u → u ≠ LEA := fun u h => by
  cases x with
  | none => cases h
  | some a => cases y with
    | none => cases h
    | some b => exact (addO_ne h).1
theorem subOO_ne {x y : Option Int64} : ∀ u, subOO x y = some u → u ≠ LEA := fun u h => by
  cases x with
  | none => cases h
  | some a => cases y with
    | none => cases h
    | some b => exact (subO_ne h).1
theorem fMul_WF {x y z : Fr} (h : fMul x y = some z) : WF z := fPut_WF (fun _ q => (mulO_ne q).1) (fun _ q => (mulO_ne q).1) h
theorem fDiv_WF {x y z : Fr} (h : fDiv x y = some z) : WF z := fPut_WF (fun _ q => (mulO_ne q).1) (fun _ q => (mulO_ne q).1) h
theorem fAdd_WF {x y z : Fr} (h : fAdd x y = some z) : WF z := fPut_WF addOO_ne (fun _ q => (mulO_ne q).1) h
theorem fSub_WF {x y z : Fr} (h : fSub x y = some z) : WF z := fPut_WF subOO_ne (fun _ q => (mulO_ne q).1) h
theorem WF_00 : WF (0, 1) := ⟨by decide, by decide, by decide⟩
theorem WF_10 : WF (1, 1) := ⟨by decide, by decide, by decide⟩
theorem WF_n1 : WF (-1, 1) := ⟨by decide, by decide, by decide⟩
theorem i64_1 : (1 : Int64).toInt = 1 := by decide
theorem mulO_0 (x : Int64) : mulO 0 x = some 0 := by
  unfold mulO
  rw [if_pos (by rw [i64_0, Int.zero_mul]; decide), Int64.zero_mul]
theorem mulO_0r (x : Int64) : mulO x 0 = some 0 := by
  unfold mulO
  rw [if_pos (by rw [i64_0, Int.mul_zero]; decide), Int64.mul_zero]
theorem mulO_1 {x : Int64} (h : x ≠ LEA) : mulO x 1 = some x := by
  unfold mulO
  rw [if_pos (by rw [i64_1, Int.mul_one]; exact ⟨ne_LEA.mp h, i64_hi x⟩), Int64.mul_one]
theorem mulO_1l {x : Int64} (h : x ≠ LEA) : mulO 1 x = some x := by
  unfold mulO
  rw [if_pos (by rw [i64_1, Int.one_mul]; exact ⟨ne_LEA.mp h, i64_hi x⟩), Int64.one_mul]
theorem red_0 {v : Int64} (h : v ≠ LEA) (h0 : 0 < v.toInt) : red 0 v = (0, 1) := by
  have hw := red_WF (u := 0) (by decide) h (fun q => by rw [q, i64_0] at h0; omega)
  have hp : 0 ≤ v := by rw [Int64.le_iff_toInt_le, i64_0]; omega
  have hg : gcdN 0 v = absN v := by unfold gcdN; rw [show absN 0 = 0 from by decide, Nat.gcd_zero_left]
  rw [red_p hp, hg, ← abs_pos h hp]
  have h1 : (0 : Int64) / v = 0 := by
    apply Int64.toInt_inj.mp
    rw [Int64.toInt_div_of_ne_left _ _ (by decide), i64_0, Int.zero_tdiv]
  have h2 : v / v = 1 := by
    apply Int64.toInt_inj.mp
    rw [Int64.toInt_div_of_ne_left _ _ (fun q => h (q.trans (by decide))), Int.tdiv_self (by omega), i64_1]
  rw [h1, h2]
theorem fPut_of {u v : Int64} (h : ¬ v = 0) : fPut (some u) (some v) = some (red u v) := if_neg h
theorem fMul_0 {y : Fr} (h : WF y) : fMul (0, 1) y = some (0, 1) := by
  unfold fMul
  rw [mulO_0, mulO_1l h.ne2, fPut_of h.n0, red_0 h.ne2 h.2.1]
theorem fAdd_0 {x : Fr} (h : WF x) : fAdd x (0, 1) = some x := by
  unfold fAdd
  rw [mulO_1 h.1, mulO_0, mulO_1 h.ne2]
  have : addOO (some x.1) (some 0) = some x.1 := by
    show addO x.1 0 = some x.1
    unfold addO
    rw [if_pos (by rw [i64_0, Int.add_zero]; exact ⟨ne_LEA.mp h.1, i64_hi _⟩), Int64.add_zero]
  rw [this, fPut_of h.n0, red_id h]
theorem fDiv_1 {x : Fr} (h : WF x) : fDiv x (1, 1) = some x := by
  unfold fDiv
  rw [mulO_1 h.1, mulO_1 h.ne2, fPut_of h.n0, red_id h]
def ngF (x : Fr) : Fr := (-x.1, x.2)
theorem WF.ng {x : Fr} (h : WF x) : WF (ngF x) := by
  have h1 := neg_in h.1
  have h2 := ne_LEA.mp h.1
  have h3 := i64_hi x.1
  refine ⟨?_, h.2.1, ?_⟩
  · show -x.1 ≠ LEA
    rw [ne_LEA, h1]; omega
  · show gcdN (-x.1) x.2 = 1
    rw [gcdN, absN, h1, Int.natAbs_neg]
    exact h.2.2
theorem put_ng {x : Fr} (h : WF x) : fPut (decO (-x.1)) (decO x.2) = some (ngF x) := by
  show fPut (decO (ngF x).1) (decO x.2) = _
  rw [fPut_4 h.ng.1 h.ne2 h.n0]
  exact congrArg some (red_id h.ng)
theorem fSub_0 {x : Fr} (h : WF x) : fSub (0, 1) x = some (ngF x) := by
  unfold fSub
  rw [mulO_0, mulO_1 h.1, mulO_1l h.ne2]
  have : subOO (some 0) (some x.1) = some (-x.1) := by
    show subO 0 x.1 = some (-x.1)
    unfold subO
    have h2 := ne_LEA.mp h.1
    have h3 := i64_hi x.1
    rw [if_pos (by rw [i64_0]; constructor <;> omega), Int64.zero_sub]
  rw [this, fPut_of h.n0]
  exact congrArg some (red_id h.ng)
theorem WF_1 {w : Int64} (h : w ≠ LEA) : WF (w, 1) := ⟨h, (by decide : 0 < (1 : Int64).toInt), by show Nat.gcd (absN w) (absN 1) = 1; rw [show absN 1 = 1 from by decide]; exact Nat.gcd_one_right _⟩
theorem put_1 {w : Int64} (h : w ≠ LEA) : fPut (decO w) (decO 1) = some (w, 1) := by
  rw [fPut_4 h (by decide) (by decide)]
  exact congrArg some (red_id (WF_1 h))
theorem hv_WF (v : Int32) (i j : Nat) : WF (hv v i j) := by
  unfold hv
  apply red_WF (i2l_ne v)
  · split <;> decide
  · split <;> decide
/-! ===== the witness ===== -/
/-- every number of an elimination is in lowest terms, its lines are as told -/
def EW (n : Nat) (E : ES) : Prop := (∀ i j, i ≤ n → j ≤ n → WF (eM E i j)) ∧ ∀ s, s < eS E → eP E s ≤ n ∧ WF (eW E s) ∧ ∀ j, WF (eN E s j) ∧ (eT E s j = true → j ≠ eP E s ∧ j ≤ n) ∧ (eT E s j = false → j = eP E s ∨ eN E s j = (0, 1))
theorem EW_0 {n : Nat} {M : Nat → Nat → Fr} (h : ∀ i j, i ≤ n → j ≤ n → WF (M i j)) : EW n (E0 n M) := ⟨h, fun s hs => absurd hs (Nat.not_lt_zero s)⟩
theorem rwF_WF {n : Nat} {E : ES} {k j : Nat} (h : rwO E k j ≠ none) : WF (rwF E k j) := by
  unfold rwF
  cases hq : rwO E k j with
  | none => exact absurd hq h
  | some z =>
    show WF z
    unfold rwO at hq
    split at hq
    · exact fDiv_WF hq
    · cases hq
      split
      · exact WF_10
      · exact WF_00
theorem nwO_WF {n : Nat} {E : ES} {k i j : Nat} {z : Fr} (h : nwO n E k i j = some z) : WF z := by
  have key : ∀ a b, cpO E k a b = some z → WF z := by
    intro a b hq
    unfold cpO at hq
    cases hm : fMul (eM E a k) (eN E (eS E - 1) b) with
    | none => rw [hm] at hq; cases hq
    | some x => rw [hm] at hq; exact fSub_WF hq
  unfold nwO at h
  split at h
  · exact key _ _ h
  · exact key _ _ h
theorem EW_s {n k : Nat} {E E' : ES} (h : EW n E) (hE : EI n E) (hk : k ≤ n) (h2 : pvO n E k = some E') : EW n E' := by
  unfold pvO at h2
  by_cases hp : rwOk n E k ∧ lsOk n (midE E k) k
  · rw [cif_t hp] at h2
    cases h2
    refine ⟨fun i j hi hj => ?_, fun s hs => ?_⟩
    · show WF (if va_up (eL E) k false i = true ∧ va_up (eL E) k false j = true then (nwO n (midE E k) k i j).getD (0, 1) else eM E i j)
      split
      · next hl =>
        have := hp.2 i j hi hj hl.1 hl.2
        cases hq : nwO n (midE E k) k i j with
        | none => exact absurd hq this
        | some z => exact nwO_WF hq
      · exact h.1 i j hi hj
    · have hs' : s < eS E + 1 := hs
      show va_up (eP E) (eS E) k s ≤ n ∧ WF (va_up (eW E) (eS E) (eM E k k) s) ∧ ∀ j, WF (va_up (eN E) (eS E) (rwF E k) s j) ∧ (va_up (eT E) (eS E) (fun j => eL E j && decide (j ≠ k)) s j = true → j ≠ va_up (eP E) (eS E) k s ∧ j ≤ n) ∧ (va_up (eT E) (eS E) (fun j => eL E j && decide (j ≠ k)) s j = false → j = va_up (eP E) (eS E) k s ∨ va_up (eN E) (eS E) (rwF E k) s j = (0, 1))
      by_cases e : s = eS E
      · subst e
        simp only [va_up_self]
        have hno : ∀ j, ¬ (eL E j = true ∧ j ≠ k) → rwO E k j = some (if j = k then (1, 1) else (0, 1)) := fun j hj => by unfold rwO; rw [if_neg hj]
        refine ⟨hk, h.1 k k hk hk, fun j => ⟨?_, fun hj => ?_, fun hj => ?_⟩⟩
        · by_cases hj : j ≤ n
          · exact rwF_WF (n := n) (hp.1 j hj)
          · exact rwF_WF (n := n) (by rw [hno j (fun q => by rw [hE.1 j (by omega)] at q; cases q.1)]; exact fun q => by cases q)
        · rw [Bool.and_eq_true, decide_eq_true_eq] at hj
          refine ⟨hj.2, ?_⟩
          by_cases hjn : j ≤ n
          · exact hjn
          · rw [hE.1 j (by omega)] at hj; cases hj.1
        · by_cases ejk : j = k
          · exact Or.inl ejk
          · right
            rw [decide_eq_true ejk, Bool.and_true] at hj
            have := hno j (fun q => by rw [hj] at q; cases q.1)
            rw [if_neg ejk] at this
            exact rwF_of this
      · simp only [va_up_ne _ _ e]
        exact h.2 s (by omega)
  · rw [cif_f hp] at h2
    cases h2
theorem elim_EW {n : Nat} : ∀ {f : Nat} {E : ES} {c k : Nat} {jo : Option Nat} {E' : ES}, EW n E → EI n E → elim n f E = (c, k, jo, E') → EW n E' ∧ EI n E' ∧ (c = 0 → k ≤ n ∧ ∀ j, jo = some j → j ≤ n) ∧ c ≤ 2
  | 0, E, c, k, jo, E', h1, h2, h => by
    cases h
    exact ⟨h1, h2, fun q => by omega, by omega⟩
  | f + 1, E, c, k, jo, E', h1, h2, h => by
    cases hf : ffo (isSg (-1) E) n (n + 1) with
    | some k1 => rw [elim_neg hf] at h; cases h; exact ⟨h1, h2, fun _ => ⟨(ffo_some hf).1, fun j q => by cases q⟩, by omega⟩
    | none =>
      cases hp : ffo (isSg 1 E) n (n + 1) with
      | none =>
        cases hq : ffp (isPr E) n (n + 1) with
        | none => rw [elim_done hf hp hq] at h; cases h; exact ⟨h1, h2, fun q => by omega, by omega⟩
        | some w => obtain ⟨i, j⟩ := w; rw [elim_pair hf hp hq] at h; cases h; exact ⟨h1, h2, fun _ => ⟨(ffp_some hq).1, fun j q => by cases q; exact (ffp_some hq).2.1⟩, by omega⟩
      | some k2 =>
        cases hv : pvO n E k2 with
        | none => rw [elim_long hf hp hv] at h; cases h; exact ⟨h1, h2, fun q => by omega, by omega⟩
        | some E2 =>
          rw [elim_go hf hp hv] at h
          have hk := ffo_some hp
          exact elim_EW (EW_s h1 h2 hk.1 hv) (EI_s h2 hk.1 (isSg_L hk.2).1 hv) h
/-- the sum over a line's others -/
def smO (T : Nat → Bool) (N V : Nat → Fr) (n : Nat) : Nat → Fr → Option Fr
  | 0, a => some a
  | k + 1, a => if T (ordn n (n - k)) = true then ((fMul (N (ordn n (n - k))) (V (ordn n (n - k)))).bind (fAdd a)).bind (smO T N V n k) else smO T N V n k a
theorem smO_t {T : Nat → Bool} {N V : Nat → Fr} {n t : Nat} {a : Fr} (ht : t ≤ n) (h : T (ordn n t) = true) : smO T N V n (n + 1 - t) a = ((fMul (N (ordn n t)) (V (ordn n t))).bind (fAdd a)).bind (smO T N V n (n + 1 - (t + 1))) := by
  rw [show n + 1 - t = (n - t) + 1 by omega, smO, show n - (n - t) = t by omega, if_pos h, show n + 1 - (t + 1) = n - t by omega]
theorem smO_f {T : Nat → Bool} {N V : Nat → Fr} {n t : Nat} {a : Fr} (ht : t ≤ n) (h : T (ordn n t) = false) : smO T N V n (n + 1 - t) a = smO T N V n (n + 1 - (t + 1)) a := by
  rw [show n + 1 - t = (n - t) + 1 by omega, smO, show n - (n - t) = t by omega, if_neg (by rw [h]; decide), show n + 1 - (t + 1) = n - t by omega]
/-- the pivots' numbers, the last one first -/
def gbO (n : Nat) (E : ES) : Nat → (Nat → Fr) → Option (Nat → Fr)
  | 0, V => some V
  | s + 1, V => (smO (eT E s) (eN E s) V n (n + 1) (0, 1)).bind (fun z => gbO n E s (va_up V (eP E s) (ngF z)))
def z0 : Nat → Fr := fun _ => (0, 1)
def wit0 (k : Nat) (jo : Option Nat) (M : Nat → Nat → Fr) : Nat → Fr := match jo with
  | none => va_up z0 k (1, 1)
  | some j => va_up (va_up z0 k (1, 1)) j (if 0 < lg_cmp (M k j).1 0 then (-1, 1) else (1, 1))
theorem m1_sub (k : Nat) : nI k + Int32.ofInt (-1) = nI k - nI 1 := by
  rw [Int32.sub_eq_add_neg]; congr 1
def tw (e : Nat) : Int64 := 1 <<< ((nI e).toInt64 &&& 63)
theorem tw_ne : ∀ e, e ≤ 40 → tw e ≠ LEA := by decide
end
section
theorem zz_last : True := trivial
end
