-- ===== PART A: goes FIRST, ahead of the names: the tables' words, and 'selects' of the private methods out of them =====
/-- a private method of a class that the tables say can be made, by its rows of tables_1 -/
def lw_okq (q : MethodName × Nat) : Prop := (q.1.cls ≠ "java/lang/invoke/MethodHandle" ∧ q.1.cls ≠ "java/lang/invoke/VarHandle") ∧ Cond.instantiable q.1.cls q.2 ∈ tables_1 ∧ Cond.privateMethod q.1 ∈ tables_1 ∧ Cond.instanceMethod q.1 ∈ tables_1
theorem lw_p0 : lw_okq (⟨"SquareSums", "isForm", "(I)Z"⟩, 13) := ⟨⟨by decide +kernel, by decide +kernel⟩, List.mem_of_getElem? (i := 15) (by decide +kernel), List.mem_of_getElem? (i := 235) (by decide +kernel), List.mem_of_getElem? (i := 236) (by decide +kernel)⟩
theorem lw_p1 : lw_okq (⟨"SquareSums", "isIndex", "(I)Z"⟩, 13) := ⟨⟨by decide +kernel, by decide +kernel⟩, List.mem_of_getElem? (i := 15) (by decide +kernel), List.mem_of_getElem? (i := 239) (by decide +kernel), List.mem_of_getElem? (i := 240) (by decide +kernel)⟩
theorem lw_p2 : lw_okq (⟨"SquareSums$Elimination", "start", "(I)V"⟩, 10) := ⟨⟨by decide +kernel, by decide +kernel⟩, List.mem_of_getElem? (i := 63) (by decide +kernel), List.mem_of_getElem? (i := 290) (by decide +kernel), List.mem_of_getElem? (i := 291) (by decide +kernel)⟩
theorem lw_p3 : lw_okq (⟨"SquareSums$Elimination", "makeSquare", "(I)Z"⟩, 10) := ⟨⟨by decide +kernel, by decide +kernel⟩, List.mem_of_getElem? (i := 63) (by decide +kernel), List.mem_of_getElem? (i := 305) (by decide +kernel), List.mem_of_getElem? (i := 306) (by decide +kernel)⟩
theorem lw_p4 : lw_okq (⟨"SquareSums$Elimination", "lessen", "(I)Z"⟩, 10) := ⟨⟨by decide +kernel, by decide +kernel⟩, List.mem_of_getElem? (i := 63) (by decide +kernel), List.mem_of_getElem? (i := 326) (by decide +kernel), List.mem_of_getElem? (i := 327) (by decide +kernel)⟩
theorem lw_p5 : lw_okq (⟨"SquareSums", "startTelling", "(II)V"⟩, 13) := ⟨⟨by decide +kernel, by decide +kernel⟩, List.mem_of_getElem? (i := 15) (by decide +kernel), List.mem_of_getElem? (i := 346) (by decide +kernel), List.mem_of_getElem? (i := 347) (by decide +kernel)⟩
theorem lw_p6 : lw_okq (⟨"SquareSums$Elimination", "firstLeftOfSign", "(I)I"⟩, 10) := ⟨⟨by decide +kernel, by decide +kernel⟩, List.mem_of_getElem? (i := 63) (by decide +kernel), List.mem_of_getElem? (i := 360) (by decide +kernel), List.mem_of_getElem? (i := 361) (by decide +kernel)⟩
theorem lw_p7 : lw_okq (⟨"SquareSums$Elimination", "findPair", "()Z"⟩, 10) := ⟨⟨by decide +kernel, by decide +kernel⟩, List.mem_of_getElem? (i := 63) (by decide +kernel), List.mem_of_getElem? (i := 364) (by decide +kernel), List.mem_of_getElem? (i := 365) (by decide +kernel)⟩
theorem lw_p8 : lw_okq (⟨"SquareSums$Elimination", "clearWitness", "()V"⟩, 10) := ⟨⟨by decide +kernel, by decide +kernel⟩, List.mem_of_getElem? (i := 63) (by decide +kernel), List.mem_of_getElem? (i := 372) (by decide +kernel), List.mem_of_getElem? (i := 373) (by decide +kernel)⟩
theorem lw_p9 : lw_okq (⟨"SquareSums$Elimination", "goBack", "()Z"⟩, 10) := ⟨⟨by decide +kernel, by decide +kernel⟩, List.mem_of_getElem? (i := 63) (by decide +kernel), List.mem_of_getElem? (i := 378) (by decide +kernel), List.mem_of_getElem? (i := 379) (by decide +kernel)⟩
theorem lw_p10 : lw_okq (⟨"SquareSums$Elimination", "sumOfOthers", "(LSquareSums$Square;)Z"⟩, 10) := ⟨⟨by decide +kernel, by decide +kernel⟩, List.mem_of_getElem? (i := 63) (by decide +kernel), List.mem_of_getElem? (i := 382) (by decide +kernel), List.mem_of_getElem? (i := 383) (by decide +kernel)⟩
theorem lw_p11 : lw_okq (⟨"SquareSums$Point", "takeMultiple", "([LSquareSums$Fraction;JI)Z"⟩, 4) := ⟨⟨by decide +kernel, by decide +kernel⟩, List.mem_of_getElem? (i := 134) (by decide +kernel), List.mem_of_getElem? (i := 403) (by decide +kernel), List.mem_of_getElem? (i := 404) (by decide +kernel)⟩
theorem lw_p12 : lw_okq (⟨"SquareSums$Point", "workOut", "(LSquareSums$Form;I)Z"⟩, 4) := ⟨⟨by decide +kernel, by decide +kernel⟩, List.mem_of_getElem? (i := 134) (by decide +kernel), List.mem_of_getElem? (i := 408) (by decide +kernel), List.mem_of_getElem? (i := 409) (by decide +kernel)⟩
theorem lw_p13 : lw_okq (⟨"SquareSums", "endTelling", "(I)I"⟩, 13) := ⟨⟨by decide +kernel, by decide +kernel⟩, List.mem_of_getElem? (i := 15) (by decide +kernel), List.mem_of_getElem? (i := 414) (by decide +kernel), List.mem_of_getElem? (i := 415) (by decide +kernel)⟩
theorem lw_p14 : lw_okq (⟨"SquareSums", "multiplierFound", "(LSquareSums$Form;LSquareSums$Form;I)Z"⟩, 13) := ⟨⟨by decide +kernel, by decide +kernel⟩, List.mem_of_getElem? (i := 15) (by decide +kernel), List.mem_of_getElem? (i := 422) (by decide +kernel), List.mem_of_getElem? (i := 423) (by decide +kernel)⟩
theorem lw_p15 : lw_okq (⟨"SquareSums", "wholePointFound", "(LSquareSums$Form;LSquareSums$Form;)Z"⟩, 13) := ⟨⟨by decide +kernel, by decide +kernel⟩, List.mem_of_getElem? (i := 15) (by decide +kernel), List.mem_of_getElem? (i := 435) (by decide +kernel), List.mem_of_getElem? (i := 436) (by decide +kernel)⟩
def lw_privs_1 : List (MethodName × Nat) := [(⟨"SquareSums", "isForm", "(I)Z"⟩, 13), (⟨"SquareSums", "isIndex", "(I)Z"⟩, 13), (⟨"SquareSums$Elimination", "start", "(I)V"⟩, 10), (⟨"SquareSums$Elimination", "makeSquare", "(I)Z"⟩, 10), (⟨"SquareSums$Elimination", "lessen", "(I)Z"⟩, 10), (⟨"SquareSums", "startTelling", "(II)V"⟩, 13), (⟨"SquareSums$Elimination", "firstLeftOfSign", "(I)I"⟩, 10), (⟨"SquareSums$Elimination", "findPair", "()Z"⟩, 10), (⟨"SquareSums$Elimination", "clearWitness", "()V"⟩, 10), (⟨"SquareSums$Elimination", "goBack", "()Z"⟩, 10), (⟨"SquareSums$Elimination", "sumOfOthers", "(LSquareSums$Square;)Z"⟩, 10), (⟨"SquareSums$Point", "takeMultiple", "([LSquareSums$Fraction;JI)Z"⟩, 4), (⟨"SquareSums$Point", "workOut", "(LSquareSums$Form;I)Z"⟩, 4), (⟨"SquareSums", "endTelling", "(I)I"⟩, 13), (⟨"SquareSums", "multiplierFound", "(LSquareSums$Form;LSquareSums$Form;I)Z"⟩, 13), (⟨"SquareSums", "wholePointFound", "(LSquareSums$Form;LSquareSums$Form;)Z"⟩, 13)]
theorem lw_r1 : ∀ q ∈ lw_privs_1, lw_okq q := List.forall_mem_cons.mpr ⟨lw_p0, List.forall_mem_cons.mpr ⟨lw_p1, List.forall_mem_cons.mpr ⟨lw_p2, List.forall_mem_cons.mpr ⟨lw_p3, List.forall_mem_cons.mpr ⟨lw_p4, List.forall_mem_cons.mpr ⟨lw_p5, List.forall_mem_cons.mpr ⟨lw_p6, List.forall_mem_cons.mpr ⟨lw_p7, List.forall_mem_cons.mpr ⟨lw_p8, List.forall_mem_cons.mpr ⟨lw_p9, List.forall_mem_cons.mpr ⟨lw_p10, List.forall_mem_cons.mpr ⟨lw_p11, List.forall_mem_cons.mpr ⟨lw_p12, List.forall_mem_cons.mpr ⟨lw_p13, List.forall_mem_cons.mpr ⟨lw_p14, List.forall_mem_cons.mpr ⟨lw_p15, fun _ h => absurd h List.not_mem_nil⟩⟩⟩⟩⟩⟩⟩⟩⟩⟩⟩⟩⟩⟩⟩⟩
theorem lw_p16 : lw_okq (⟨"SquareSums", "nextOnGrid", "()V"⟩, 13) := ⟨⟨by decide +kernel, by decide +kernel⟩, List.mem_of_getElem? (i := 15) (by decide +kernel), List.mem_of_getElem? (i := 444) (by decide +kernel), List.mem_of_getElem? (i := 445) (by decide +kernel)⟩
theorem lw_p17 : lw_okq (⟨"SquareSums", "isSquare", "(I)Z"⟩, 13) := ⟨⟨by decide +kernel, by decide +kernel⟩, List.mem_of_getElem? (i := 15) (by decide +kernel), List.mem_of_getElem? (i := 457) (by decide +kernel), List.mem_of_getElem? (i := 458) (by decide +kernel)⟩
theorem lw_p18 : lw_okq (⟨"SquareSums", "isProved", "()Z"⟩, 13) := ⟨⟨by decide +kernel, by decide +kernel⟩, List.mem_of_getElem? (i := 15) (by decide +kernel), List.mem_of_getElem? (i := 495) (by decide +kernel), List.mem_of_getElem? (i := 496) (by decide +kernel)⟩
theorem lw_p19 : lw_okq (⟨"SquareSums", "expand", "(II)Z"⟩, 13) := ⟨⟨by decide +kernel, by decide +kernel⟩, List.mem_of_getElem? (i := 15) (by decide +kernel), List.mem_of_getElem? (i := 499) (by decide +kernel), List.mem_of_getElem? (i := 500) (by decide +kernel)⟩
theorem lw_p20 : lw_okq (⟨"SquareSumsModel", "isIn", "(JJJ)Z"⟩, 45) := ⟨⟨by decide +kernel, by decide +kernel⟩, List.mem_of_getElem? (i := 528) (by decide +kernel), List.mem_of_getElem? (i := 675) (by decide +kernel), List.mem_of_getElem? (i := 676) (by decide +kernel)⟩
theorem lw_p21 : lw_okq (⟨"SquareSumsModel", "isForm", "(I)Z"⟩, 45) := ⟨⟨by decide +kernel, by decide +kernel⟩, List.mem_of_getElem? (i := 528) (by decide +kernel), List.mem_of_getElem? (i := 687) (by decide +kernel), List.mem_of_getElem? (i := 688) (by decide +kernel)⟩
theorem lw_p22 : lw_okq (⟨"SquareSumsModel", "at", "(II)I"⟩, 45) := ⟨⟨by decide +kernel, by decide +kernel⟩, List.mem_of_getElem? (i := 528) (by decide +kernel), List.mem_of_getElem? (i := 694) (by decide +kernel), List.mem_of_getElem? (i := 695) (by decide +kernel)⟩
theorem lw_p23 : lw_okq (⟨"SquareSumsModel", "worth", "(I)J"⟩, 45) := ⟨⟨by decide +kernel, by decide +kernel⟩, List.mem_of_getElem? (i := 528) (by decide +kernel), List.mem_of_getElem? (i := 704) (by decide +kernel), List.mem_of_getElem? (i := 705) (by decide +kernel)⟩
theorem lw_p24 : lw_okq (⟨"SquareSumsModel", "save", "()V"⟩, 45) := ⟨⟨by decide +kernel, by decide +kernel⟩, List.mem_of_getElem? (i := 528) (by decide +kernel), List.mem_of_getElem? (i := 713) (by decide +kernel), List.mem_of_getElem? (i := 714) (by decide +kernel)⟩
theorem lw_p25 : lw_okq (⟨"SquareSumsModel", "matrix", "(I)V"⟩, 45) := ⟨⟨by decide +kernel, by decide +kernel⟩, List.mem_of_getElem? (i := 528) (by decide +kernel), List.mem_of_getElem? (i := 717) (by decide +kernel), List.mem_of_getElem? (i := 718) (by decide +kernel)⟩
theorem lw_p26 : lw_okq (⟨"SquareSumsModel", "begin", "()V"⟩, 45) := ⟨⟨by decide +kernel, by decide +kernel⟩, List.mem_of_getElem? (i := 528) (by decide +kernel), List.mem_of_getElem? (i := 722) (by decide +kernel), List.mem_of_getElem? (i := 723) (by decide +kernel)⟩
theorem lw_p27 : lw_okq (⟨"SquareSumsModel", "inOrder", "(I)I"⟩, 45) := ⟨⟨by decide +kernel, by decide +kernel⟩, List.mem_of_getElem? (i := 528) (by decide +kernel), List.mem_of_getElem? (i := 726) (by decide +kernel), List.mem_of_getElem? (i := 727) (by decide +kernel)⟩
theorem lw_p28 : lw_okq (⟨"SquareSumsModel", "divide", "(I)V"⟩, 45) := ⟨⟨by decide +kernel, by decide +kernel⟩, List.mem_of_getElem? (i := 528) (by decide +kernel), List.mem_of_getElem? (i := 730) (by decide +kernel), List.mem_of_getElem? (i := 731) (by decide +kernel)⟩
theorem lw_p29 : lw_okq (⟨"SquareSumsModel", "isWrong", "()Z"⟩, 45) := ⟨⟨by decide +kernel, by decide +kernel⟩, List.mem_of_getElem? (i := 528) (by decide +kernel), List.mem_of_getElem? (i := 734) (by decide +kernel), List.mem_of_getElem? (i := 735) (by decide +kernel)⟩
theorem lw_p30 : lw_okq (⟨"SquareSumsModel", "quotient", "(JJJJ)V"⟩, 45) := ⟨⟨by decide +kernel, by decide +kernel⟩, List.mem_of_getElem? (i := 528) (by decide +kernel), List.mem_of_getElem? (i := 738) (by decide +kernel), List.mem_of_getElem? (i := 739) (by decide +kernel)⟩
theorem lw_p31 : lw_okq (⟨"SquareSumsModel", "times", "(JJ)J"⟩, 45) := ⟨⟨by decide +kernel, by decide +kernel⟩, List.mem_of_getElem? (i := 528) (by decide +kernel), List.mem_of_getElem? (i := 742) (by decide +kernel), List.mem_of_getElem? (i := 743) (by decide +kernel)⟩
def lw_privs_2 : List (MethodName × Nat) := [(⟨"SquareSums", "nextOnGrid", "()V"⟩, 13), (⟨"SquareSums", "isSquare", "(I)Z"⟩, 13), (⟨"SquareSums", "isProved", "()Z"⟩, 13), (⟨"SquareSums", "expand", "(II)Z"⟩, 13), (⟨"SquareSumsModel", "isIn", "(JJJ)Z"⟩, 45), (⟨"SquareSumsModel", "isForm", "(I)Z"⟩, 45), (⟨"SquareSumsModel", "at", "(II)I"⟩, 45), (⟨"SquareSumsModel", "worth", "(I)J"⟩, 45), (⟨"SquareSumsModel", "save", "()V"⟩, 45), (⟨"SquareSumsModel", "matrix", "(I)V"⟩, 45), (⟨"SquareSumsModel", "begin", "()V"⟩, 45), (⟨"SquareSumsModel", "inOrder", "(I)I"⟩, 45), (⟨"SquareSumsModel", "divide", "(I)V"⟩, 45), (⟨"SquareSumsModel", "isWrong", "()Z"⟩, 45), (⟨"SquareSumsModel", "quotient", "(JJJJ)V"⟩, 45), (⟨"SquareSumsModel", "times", "(JJ)J"⟩, 45)]
theorem lw_r2 : ∀ q ∈ lw_privs_2, lw_okq q := List.forall_mem_cons.mpr ⟨lw_p16, List.forall_mem_cons.mpr ⟨lw_p17, List.forall_mem_cons.mpr ⟨lw_p18, List.forall_mem_cons.mpr ⟨lw_p19, List.forall_mem_cons.mpr ⟨lw_p20, List.forall_mem_cons.mpr ⟨lw_p21, List.forall_mem_cons.mpr ⟨lw_p22, List.forall_mem_cons.mpr ⟨lw_p23, List.forall_mem_cons.mpr ⟨lw_p24, List.forall_mem_cons.mpr ⟨lw_p25, List.forall_mem_cons.mpr ⟨lw_p26, List.forall_mem_cons.mpr ⟨lw_p27, List.forall_mem_cons.mpr ⟨lw_p28, List.forall_mem_cons.mpr ⟨lw_p29, List.forall_mem_cons.mpr ⟨lw_p30, List.forall_mem_cons.mpr ⟨lw_p31, fun _ h => absurd h List.not_mem_nil⟩⟩⟩⟩⟩⟩⟩⟩⟩⟩⟩⟩⟩⟩⟩⟩
theorem lw_p32 : lw_okq (⟨"SquareSumsModel", "lowest", "(JJ)V"⟩, 45) := ⟨⟨by decide +kernel, by decide +kernel⟩, List.mem_of_getElem? (i := 528) (by decide +kernel), List.mem_of_getElem? (i := 747) (by decide +kernel), List.mem_of_getElem? (i := 748) (by decide +kernel)⟩
theorem lw_p33 : lw_okq (⟨"SquareSumsModel", "product", "(JJJJ)V"⟩, 45) := ⟨⟨by decide +kernel, by decide +kernel⟩, List.mem_of_getElem? (i := 528) (by decide +kernel), List.mem_of_getElem? (i := 751) (by decide +kernel), List.mem_of_getElem? (i := 752) (by decide +kernel)⟩
theorem lw_p34 : lw_okq (⟨"SquareSumsModel", "difference", "(JJJJ)V"⟩, 45) := ⟨⟨by decide +kernel, by decide +kernel⟩, List.mem_of_getElem? (i := 528) (by decide +kernel), List.mem_of_getElem? (i := 755) (by decide +kernel), List.mem_of_getElem? (i := 756) (by decide +kernel)⟩
theorem lw_p35 : lw_okq (⟨"SquareSumsModel", "add", "(JJ)J"⟩, 45) := ⟨⟨by decide +kernel, by decide +kernel⟩, List.mem_of_getElem? (i := 528) (by decide +kernel), List.mem_of_getElem? (i := 759) (by decide +kernel), List.mem_of_getElem? (i := 760) (by decide +kernel)⟩
theorem lw_p36 : lw_okq (⟨"SquareSumsModel", "into", "(II)V"⟩, 45) := ⟨⟨by decide +kernel, by decide +kernel⟩, List.mem_of_getElem? (i := 528) (by decide +kernel), List.mem_of_getElem? (i := 763) (by decide +kernel), List.mem_of_getElem? (i := 764) (by decide +kernel)⟩
theorem lw_p37 : lw_okq (⟨"SquareSumsModel", "restore", "()V"⟩, 45) := ⟨⟨by decide +kernel, by decide +kernel⟩, List.mem_of_getElem? (i := 528) (by decide +kernel), List.mem_of_getElem? (i := 767) (by decide +kernel), List.mem_of_getElem? (i := 768) (by decide +kernel)⟩
theorem lw_p38 : lw_okq (⟨"SquareSumsModel", "beginProof", "(II)V"⟩, 45) := ⟨⟨by decide +kernel, by decide +kernel⟩, List.mem_of_getElem? (i := 528) (by decide +kernel), List.mem_of_getElem? (i := 775) (by decide +kernel), List.mem_of_getElem? (i := 776) (by decide +kernel)⟩
theorem lw_p39 : lw_okq (⟨"SquareSumsModel", "keepMatrix", "()V"⟩, 45) := ⟨⟨by decide +kernel, by decide +kernel⟩, List.mem_of_getElem? (i := 528) (by decide +kernel), List.mem_of_getElem? (i := 779) (by decide +kernel), List.mem_of_getElem? (i := 780) (by decide +kernel)⟩
theorem lw_p40 : lw_okq (⟨"SquareSumsModel", "eliminate", "()I"⟩, 45) := ⟨⟨by decide +kernel, by decide +kernel⟩, List.mem_of_getElem? (i := 528) (by decide +kernel), List.mem_of_getElem? (i := 783) (by decide +kernel), List.mem_of_getElem? (i := 784) (by decide +kernel)⟩
theorem lw_p41 : lw_okq (⟨"SquareSumsModel", "firstDiagonal", "(Z)I"⟩, 45) := ⟨⟨by decide +kernel, by decide +kernel⟩, List.mem_of_getElem? (i := 528) (by decide +kernel), List.mem_of_getElem? (i := 787) (by decide +kernel), List.mem_of_getElem? (i := 788) (by decide +kernel)⟩
theorem lw_p42 : lw_okq (⟨"SquareSumsModel", "findPair", "()Z"⟩, 45) := ⟨⟨by decide +kernel, by decide +kernel⟩, List.mem_of_getElem? (i := 528) (by decide +kernel), List.mem_of_getElem? (i := 791) (by decide +kernel), List.mem_of_getElem? (i := 792) (by decide +kernel)⟩
theorem lw_p43 : lw_okq (⟨"SquareSumsModel", "pointBy", "(I)Z"⟩, 45) := ⟨⟨by decide +kernel, by decide +kernel⟩, List.mem_of_getElem? (i := 528) (by decide +kernel), List.mem_of_getElem? (i := 795) (by decide +kernel), List.mem_of_getElem? (i := 796) (by decide +kernel)⟩
theorem lw_p44 : lw_okq (⟨"SquareSumsModel", "noWitness", "()V"⟩, 45) := ⟨⟨by decide +kernel, by decide +kernel⟩, List.mem_of_getElem? (i := 528) (by decide +kernel), List.mem_of_getElem? (i := 799) (by decide +kernel), List.mem_of_getElem? (i := 800) (by decide +kernel)⟩
theorem lw_p45 : lw_okq (⟨"SquareSumsModel", "goBack", "()V"⟩, 45) := ⟨⟨by decide +kernel, by decide +kernel⟩, List.mem_of_getElem? (i := 528) (by decide +kernel), List.mem_of_getElem? (i := 803) (by decide +kernel), List.mem_of_getElem? (i := 804) (by decide +kernel)⟩
theorem lw_p46 : lw_okq (⟨"SquareSumsModel", "sum", "(JJJJ)V"⟩, 45) := ⟨⟨by decide +kernel, by decide +kernel⟩, List.mem_of_getElem? (i := 528) (by decide +kernel), List.mem_of_getElem? (i := 807) (by decide +kernel), List.mem_of_getElem? (i := 808) (by decide +kernel)⟩
theorem lw_p47 : lw_okq (⟨"SquareSumsModel", "isBelow", "(I)Z"⟩, 45) := ⟨⟨by decide +kernel, by decide +kernel⟩, List.mem_of_getElem? (i := 528) (by decide +kernel), List.mem_of_getElem? (i := 811) (by decide +kernel), List.mem_of_getElem? (i := 812) (by decide +kernel)⟩
def lw_privs_3 : List (MethodName × Nat) := [(⟨"SquareSumsModel", "lowest", "(JJ)V"⟩, 45), (⟨"SquareSumsModel", "product", "(JJJJ)V"⟩, 45), (⟨"SquareSumsModel", "difference", "(JJJJ)V"⟩, 45), (⟨"SquareSumsModel", "add", "(JJ)J"⟩, 45), (⟨"SquareSumsModel", "into", "(II)V"⟩, 45), (⟨"SquareSumsModel", "restore", "()V"⟩, 45), (⟨"SquareSumsModel", "beginProof", "(II)V"⟩, 45), (⟨"SquareSumsModel", "keepMatrix", "()V"⟩, 45), (⟨"SquareSumsModel", "eliminate", "()I"⟩, 45), (⟨"SquareSumsModel", "firstDiagonal", "(Z)I"⟩, 45), (⟨"SquareSumsModel", "findPair", "()Z"⟩, 45), (⟨"SquareSumsModel", "pointBy", "(I)Z"⟩, 45), (⟨"SquareSumsModel", "noWitness", "()V"⟩, 45), (⟨"SquareSumsModel", "goBack", "()V"⟩, 45), (⟨"SquareSumsModel", "sum", "(JJJJ)V"⟩, 45), (⟨"SquareSumsModel", "isBelow", "(I)Z"⟩, 45)]
theorem lw_r3 : ∀ q ∈ lw_privs_3, lw_okq q := List.forall_mem_cons.mpr ⟨lw_p32, List.forall_mem_cons.mpr ⟨lw_p33, List.forall_mem_cons.mpr ⟨lw_p34, List.forall_mem_cons.mpr ⟨lw_p35, List.forall_mem_cons.mpr ⟨lw_p36, List.forall_mem_cons.mpr ⟨lw_p37, List.forall_mem_cons.mpr ⟨lw_p38, List.forall_mem_cons.mpr ⟨lw_p39, List.forall_mem_cons.mpr ⟨lw_p40, List.forall_mem_cons.mpr ⟨lw_p41, List.forall_mem_cons.mpr ⟨lw_p42, List.forall_mem_cons.mpr ⟨lw_p43, List.forall_mem_cons.mpr ⟨lw_p44, List.forall_mem_cons.mpr ⟨lw_p45, List.forall_mem_cons.mpr ⟨lw_p46, List.forall_mem_cons.mpr ⟨lw_p47, fun _ h => absurd h List.not_mem_nil⟩⟩⟩⟩⟩⟩⟩⟩⟩⟩⟩⟩⟩⟩⟩⟩
theorem lw_p48 : lw_okq (⟨"SquareSumsModel", "end", "(I)I"⟩, 45) := ⟨⟨by decide +kernel, by decide +kernel⟩, List.mem_of_getElem? (i := 528) (by decide +kernel), List.mem_of_getElem? (i := 815) (by decide +kernel), List.mem_of_getElem? (i := 816) (by decide +kernel)⟩
theorem lw_p49 : lw_okq (⟨"SquareSumsModel", "isLowest", "(II)Z"⟩, 45) := ⟨⟨by decide +kernel, by decide +kernel⟩, List.mem_of_getElem? (i := 528) (by decide +kernel), List.mem_of_getElem? (i := 824) (by decide +kernel), List.mem_of_getElem? (i := 825) (by decide +kernel)⟩
theorem lw_p50 : lw_okq (⟨"SquareSumsModel", "isDoneBy", "(II)Z"⟩, 45) := ⟨⟨by decide +kernel, by decide +kernel⟩, List.mem_of_getElem? (i := 528) (by decide +kernel), List.mem_of_getElem? (i := 828) (by decide +kernel), List.mem_of_getElem? (i := 829) (by decide +kernel)⟩
theorem lw_p51 : lw_okq (⟨"SquareSumsModel", "isThere", "()Z"⟩, 45) := ⟨⟨by decide +kernel, by decide +kernel⟩, List.mem_of_getElem? (i := 528) (by decide +kernel), List.mem_of_getElem? (i := 832) (by decide +kernel), List.mem_of_getElem? (i := 833) (by decide +kernel)⟩
theorem lw_p52 : lw_okq (⟨"SquareSumsModel", "isSquare", "(I)Z"⟩, 45) := ⟨⟨by decide +kernel, by decide +kernel⟩, List.mem_of_getElem? (i := 528) (by decide +kernel), List.mem_of_getElem? (i := 845) (by decide +kernel), List.mem_of_getElem? (i := 846) (by decide +kernel)⟩
def lw_privs_4 : List (MethodName × Nat) := [(⟨"SquareSumsModel", "end", "(I)I"⟩, 45), (⟨"SquareSumsModel", "isLowest", "(II)Z"⟩, 45), (⟨"SquareSumsModel", "isDoneBy", "(II)Z"⟩, 45), (⟨"SquareSumsModel", "isThere", "()Z"⟩, 45), (⟨"SquareSumsModel", "isSquare", "(I)Z"⟩, 45)]
theorem lw_r4 : ∀ q ∈ lw_privs_4, lw_okq q := List.forall_mem_cons.mpr ⟨lw_p48, List.forall_mem_cons.mpr ⟨lw_p49, List.forall_mem_cons.mpr ⟨lw_p50, List.forall_mem_cons.mpr ⟨lw_p51, List.forall_mem_cons.mpr ⟨lw_p52, fun _ h => absurd h List.not_mem_nil⟩⟩⟩⟩⟩
def lw_privs : List (MethodName × Nat) := lw_privs_1 ++ (lw_privs_2 ++ (lw_privs_3 ++ (lw_privs_4)))
def lw_tbl : List Cond := k2_sels lw_privs ++ tables_1
theorem lw_privs_ok : ∀ q ∈ lw_privs, lw_okq q := by
  show ∀ q ∈ lw_privs_1 ++ (lw_privs_2 ++ (lw_privs_3 ++ (lw_privs_4))), lw_okq q
  exact List.forall_mem_append.mpr ⟨lw_r1, List.forall_mem_append.mpr ⟨lw_r2, List.forall_mem_append.mpr ⟨lw_r3, lw_r4⟩⟩⟩
/-- the streams that the claim lets the run draw from -/
abbrev lw_cs : List Choice := [Jvm.Choice.named "NaN.bits"]
theorem lw_bits : nanBits ∈ lw_cs := by first | decide | exact List.mem_cons_self | simp [lw_cs, nanBits]

def RX0 : String := "SquareSums$Elimination"
def TX0 : u_T := fun k => match k with
  | 0 => ("SquareSums$Elimination", "matrix", "LSquareSums$Matrix;", true)
  | 1 => ("SquareSums$Elimination", "left", "[Z", true)
  | 2 => ("SquareSums$Elimination", "squares", "[LSquareSums$Square;", true)
  | 3 => ("SquareSums$Elimination", "witness", "[LSquareSums$Fraction;", true)
  | 4 => ("SquareSums$Elimination", "product", "LSquareSums$Fraction;", true)
  | 5 => ("SquareSums$Elimination", "total", "LSquareSums$Fraction;", true)
  | 6 => ("SquareSums$Elimination", "n", "I", false)
  | 7 => ("SquareSums$Elimination", "squareCount", "I", false)
  | 8 => ("SquareSums$Elimination", "firstNegative", "I", false)
  | _ => ("SquareSums$Elimination", "secondNegative", "I", false)
def tyX0 : Nat → FieldType := fun k => match k with
  | 0 => .object "SquareSums$Matrix"
  | 1 => .array .boolean
  | 2 => .array (.object "SquareSums$Square")
  | 3 => .array (.object "SquareSums$Fraction")
  | 4 => .object "SquareSums$Fraction"
  | 5 => .object "SquareSums$Fraction"
  | 6 => .int
  | 7 => .int
  | 8 => .int
  | _ => .int
abbrev wsX00 : List Cond := u_ws RX0 TX0 10
theorem nmX0 : ∀ a, a < 10 → ∀ b, b < 10 → a ≠ b → (TX0 a).2.1 ≠ (TX0 b).2.1 := by decide +kernel
theorem tyX0_ok : ∀ k, k < 10 → parseFieldDescriptor (TX0 k).2.2.1 = some (tyX0 k) := by decide +kernel
abbrev cX0_init : ByteArray := prog_2_method_1_code
def yX0_init : MethodName := ⟨RX0, "<init>", "()V"⟩
abbrev cX0_run : ByteArray := prog_2_method_2_code
def yX0_run : MethodName := ⟨RX0, "run", "(LSquareSums$Matrix;I)I"⟩
abbrev cX0_runWithoutLooking : ByteArray := prog_2_method_3_code
def yX0_runWithoutLooking : MethodName := ⟨RX0, "runWithoutLooking", "(LSquareSums$Form;I)I"⟩
abbrev cX0_findNegative : ByteArray := prog_2_method_4_code
def yX0_findNegative : MethodName := ⟨RX0, "findNegative", "()Z"⟩
abbrev cX0_findZero : ByteArray := prog_2_method_5_code
def yX0_findZero : MethodName := ⟨RX0, "findZero", "()Z"⟩
abbrev cX0_start : ByteArray := prog_2_method_6_code
def yX0_start : MethodName := ⟨RX0, "start", "(I)V"⟩
abbrev cX0_firstLeftOfSign : ByteArray := prog_2_method_7_code
def yX0_firstLeftOfSign : MethodName := ⟨RX0, "firstLeftOfSign", "(I)I"⟩
abbrev cX0_findPair : ByteArray := prog_2_method_8_code
def yX0_findPair : MethodName := ⟨RX0, "findPair", "()Z"⟩
abbrev cX0_makeSquare : ByteArray := prog_2_method_9_code
def yX0_makeSquare : MethodName := ⟨RX0, "makeSquare", "(I)Z"⟩
abbrev cX0_lessen : ByteArray := prog_2_method_10_code
def yX0_lessen : MethodName := ⟨RX0, "lessen", "(I)Z"⟩
abbrev cX0_clearWitness : ByteArray := prog_2_method_11_code
def yX0_clearWitness : MethodName := ⟨RX0, "clearWitness", "()V"⟩
abbrev cX0_goBack : ByteArray := prog_2_method_12_code
def yX0_goBack : MethodName := ⟨RX0, "goBack", "()Z"⟩
abbrev cX0_sumOfOthers : ByteArray := prog_2_method_13_code
def yX0_sumOfOthers : MethodName := ⟨RX0, "sumOfOthers", "(LSquareSums$Square;)Z"⟩
def RX1 : String := "SquareSums$Form"
def TX1 : u_T := fun k => match k with
  | _ => ("SquareSums$Form", "numbers", "[I", true)
def tyX1 : Nat → FieldType := fun k => match k with
  | _ => .array .int
abbrev wsX10 : List Cond := u_ws RX1 TX1 1
theorem nmX1 : ∀ a, a < 1 → ∀ b, b < 1 → a ≠ b → (TX1 a).2.1 ≠ (TX1 b).2.1 := by decide +kernel
theorem tyX1_ok : ∀ k, k < 1 → parseFieldDescriptor (TX1 k).2.2.1 = some (tyX1 k) := by decide +kernel
abbrev cX1_init : ByteArray := prog_3_method_1_code
def yX1_init : MethodName := ⟨RX1, "<init>", "()V"⟩
abbrev cX1_clear : ByteArray := prog_3_method_2_code
def yX1_clear : MethodName := ⟨RX1, "clear", "()V"⟩
abbrev cX1_number : ByteArray := prog_3_method_3_code
def yX1_number : MethodName := ⟨RX1, "number", "(II)I"⟩
abbrev cX1_replace : ByteArray := prog_3_method_4_code
def yX1_replace : MethodName := ⟨RX1, "replace", "(III)I"⟩
abbrev cX1_atWhole : ByteArray := prog_3_method_5_code
def yX1_atWhole : MethodName := ⟨RX1, "atWhole", "([JI)J"⟩
def RX2 : String := "SquareSums$Fraction"
def TX2 : u_T := fun k => match k with
  | 0 => ("SquareSums$Fraction", "up", "J", false)
  | _ => ("SquareSums$Fraction", "down", "J", false)
def tyX2 : Nat → FieldType := fun k => match k with
  | 0 => .long
  | _ => .long
abbrev wsX20 : List Cond := u_ws RX2 TX2 2
theorem nmX2 : ∀ a, a < 2 → ∀ b, b < 2 → a ≠ b → (TX2 a).2.1 ≠ (TX2 b).2.1 := by decide +kernel
theorem tyX2_ok : ∀ k, k < 2 → parseFieldDescriptor (TX2 k).2.2.1 = some (tyX2 k) := by decide +kernel
abbrev cX2_init : ByteArray := prog_4_method_1_code
def yX2_init : MethodName := ⟨RX2, "<init>", "()V"⟩
abbrev cX2_put : ByteArray := prog_4_method_2_code
def yX2_put : MethodName := ⟨RX2, "put", "(JJ)Z"⟩
abbrev cX2_copy : ByteArray := prog_4_method_3_code
def yX2_copy : MethodName := ⟨RX2, "copy", "(LSquareSums$Fraction;)V"⟩
abbrev cX2_sum : ByteArray := prog_4_method_4_code
def yX2_sum : MethodName := ⟨RX2, "sum", "(LSquareSums$Fraction;LSquareSums$Fraction;)Z"⟩
abbrev cX2_difference : ByteArray := prog_4_method_5_code
def yX2_difference : MethodName := ⟨RX2, "difference", "(LSquareSums$Fraction;LSquareSums$Fraction;)Z"⟩
abbrev cX2_product : ByteArray := prog_4_method_6_code
def yX2_product : MethodName := ⟨RX2, "product", "(LSquareSums$Fraction;LSquareSums$Fraction;)Z"⟩
abbrev cX2_quotient : ByteArray := prog_4_method_7_code
def yX2_quotient : MethodName := ⟨RX2, "quotient", "(LSquareSums$Fraction;LSquareSums$Fraction;)Z"⟩
abbrev cX2_sign : ByteArray := prog_4_method_8_code
def yX2_sign : MethodName := ⟨RX2, "sign", "()I"⟩
abbrev cX2_isSame : ByteArray := prog_4_method_9_code
def yX2_isSame : MethodName := ⟨RX2, "isSame", "(LSquareSums$Fraction;)Z"⟩
abbrev cX2_part : ByteArray := prog_4_method_10_code
def yX2_part : MethodName := ⟨RX2, "part", "(I)J"⟩
abbrev cX2_commonDivisor : ByteArray := prog_4_method_11_code
def yX2_commonDivisor : MethodName := ⟨RX2, "commonDivisor", "(JJ)J"⟩
abbrev cX2_times : ByteArray := prog_4_method_12_code
def yX2_times : MethodName := ⟨RX2, "times", "(JJ)J"⟩
abbrev cX2_plus : ByteArray := prog_4_method_13_code
def yX2_plus : MethodName := ⟨RX2, "plus", "(JJ)J"⟩
abbrev cX2_minus : ByteArray := prog_4_method_14_code
def yX2_minus : MethodName := ⟨RX2, "minus", "(JJ)J"⟩
def RX3 : String := "SquareSums$Matrix"
def TX3 : u_T := fun k => match k with
  | 0 => ("SquareSums$Matrix", "items", "[LSquareSums$Fraction;", true)
  | _ => ("SquareSums$Matrix", "other", "LSquareSums$Fraction;", true)
def tyX3 : Nat → FieldType := fun k => match k with
  | 0 => .array (.object "SquareSums$Fraction")
  | _ => .object "SquareSums$Fraction"
abbrev wsX30 : List Cond := u_ws RX3 TX3 2
theorem nmX3 : ∀ a, a < 2 → ∀ b, b < 2 → a ≠ b → (TX3 a).2.1 ≠ (TX3 b).2.1 := by decide +kernel
theorem tyX3_ok : ∀ k, k < 2 → parseFieldDescriptor (TX3 k).2.2.1 = some (tyX3 k) := by decide +kernel
abbrev cX3_init : ByteArray := prog_5_method_1_code
def yX3_init : MethodName := ⟨RX3, "<init>", "()V"⟩
abbrev cX3_at : ByteArray := prog_5_method_2_code
def yX3_at : MethodName := ⟨RX3, "at", "(II)LSquareSums$Fraction;"⟩
abbrev cX3_take : ByteArray := prog_5_method_3_code
def yX3_take : MethodName := ⟨RX3, "take", "(LSquareSums$Form;I)V"⟩
abbrev cX3_takeLess : ByteArray := prog_5_method_4_code
def yX3_takeLess : MethodName := ⟨RX3, "takeLess", "(LSquareSums$Form;LSquareSums$Form;LSquareSums$Fraction;I)Z"⟩
abbrev cX3_copy : ByteArray := prog_5_method_5_code
def yX3_copy : MethodName := ⟨RX3, "copy", "(LSquareSums$Matrix;)V"⟩
def RX4 : String := "SquareSums$Point"
def TX4 : u_T := fun k => match k with
  | 0 => ("SquareSums$Point", "x", "[LSquareSums$Fraction;", true)
  | 1 => ("SquareSums$Point", "step", "LSquareSums$Fraction;", true)
  | 2 => ("SquareSums$Point", "formThere", "LSquareSums$Fraction;", true)
  | _ => ("SquareSums$Point", "there", "Z", false)
def tyX4 : Nat → FieldType := fun k => match k with
  | 0 => .array (.object "SquareSums$Fraction")
  | 1 => .object "SquareSums$Fraction"
  | 2 => .object "SquareSums$Fraction"
  | _ => .boolean
abbrev wsX40 : List Cond := u_ws RX4 TX4 4
theorem nmX4 : ∀ a, a < 4 → ∀ b, b < 4 → a ≠ b → (TX4 a).2.1 ≠ (TX4 b).2.1 := by decide +kernel
theorem tyX4_ok : ∀ k, k < 4 → parseFieldDescriptor (TX4 k).2.2.1 = some (tyX4 k) := by decide +kernel
abbrev cX4_init : ByteArray := prog_6_method_1_code
def yX4_init : MethodName := ⟨RX4, "<init>", "()V"⟩
abbrev cX4_byWitness : ByteArray := prog_6_method_2_code
def yX4_byWitness : MethodName := ⟨RX4, "byWitness", "([LSquareSums$Fraction;LSquareSums$Form;I)Z"⟩
abbrev cX4_byQuotients : ByteArray := prog_6_method_3_code
def yX4_byQuotients : MethodName := ⟨RX4, "byQuotients", "([LSquareSums$Fraction;I)Z"⟩
abbrev cX4_takeWhole : ByteArray := prog_6_method_4_code
def yX4_takeWhole : MethodName := ⟨RX4, "takeWhole", "([JI)V"⟩
abbrev cX4_takeMultiple : ByteArray := prog_6_method_5_code
def yX4_takeMultiple : MethodName := ⟨RX4, "takeMultiple", "([LSquareSums$Fraction;JI)Z"⟩
abbrev cX4_workOut : ByteArray := prog_6_method_6_code
def yX4_workOut : MethodName := ⟨RX4, "workOut", "(LSquareSums$Form;I)Z"⟩
def RX5 : String := "SquareSums$Square"
def TX5 : u_T := fun k => match k with
  | 0 => ("SquareSums$Square", "scale", "LSquareSums$Fraction;", true)
  | 1 => ("SquareSums$Square", "row", "[LSquareSums$Fraction;", true)
  | _ => ("SquareSums$Square", "pivotIndex", "I", false)
def tyX5 : Nat → FieldType := fun k => match k with
  | 0 => .object "SquareSums$Fraction"
  | 1 => .array (.object "SquareSums$Fraction")
  | _ => .int
abbrev wsX50 : List Cond := u_ws RX5 TX5 3
theorem nmX5 : ∀ a, a < 3 → ∀ b, b < 3 → a ≠ b → (TX5 a).2.1 ≠ (TX5 b).2.1 := by decide +kernel
theorem tyX5_ok : ∀ k, k < 3 → parseFieldDescriptor (TX5 k).2.2.1 = some (tyX5 k) := by decide +kernel
abbrev cX5_init : ByteArray := prog_7_method_1_code
def yX5_init : MethodName := ⟨RX5, "<init>", "()V"⟩
abbrev cX5_start : ByteArray := prog_7_method_2_code
def yX5_start : MethodName := ⟨RX5, "start", "(ILSquareSums$Fraction;)V"⟩
def RX6 : String := "SquareSums"
def TX6 : u_T := fun k => match k with
  | 0 => ("SquareSums", "forms", "[LSquareSums$Form;", true)
  | 1 => ("SquareSums", "latest", "[I", true)
  | 2 => ("SquareSums", "whole", "[J", true)
  | 3 => ("SquareSums", "provedMatrix", "LSquareSums$Matrix;", true)
  | 4 => ("SquareSums", "proof", "LSquareSums$Elimination;", true)
  | 5 => ("SquareSums", "unlooking", "LSquareSums$Elimination;", true)
  | 6 => ("SquareSums", "place", "LSquareSums$Point;", true)
  | 7 => ("SquareSums", "multiplier", "LSquareSums$Fraction;", true)
  | 8 => ("SquareSums", "expanded", "LSquareSums$Fraction;", true)
  | 9 => ("SquareSums", "item", "LSquareSums$Fraction;", true)
  | 10 => ("SquareSums", "variableCount", "I", false)
  | 11 => ("SquareSums", "formCount", "I", false)
  | _ => ("SquareSums", "proofCount", "I", false)
def tyX6 : Nat → FieldType := fun k => match k with
  | 0 => .array (.object "SquareSums$Form")
  | 1 => .array .int
  | 2 => .array .long
  | 3 => .object "SquareSums$Matrix"
  | 4 => .object "SquareSums$Elimination"
  | 5 => .object "SquareSums$Elimination"
  | 6 => .object "SquareSums$Point"
  | 7 => .object "SquareSums$Fraction"
  | 8 => .object "SquareSums$Fraction"
  | 9 => .object "SquareSums$Fraction"
  | 10 => .int
  | 11 => .int
  | _ => .int
abbrev wsX60 : List Cond := u_ws RX6 TX6 13
theorem nmX6 : ∀ a, a < 13 → ∀ b, b < 13 → a ≠ b → (TX6 a).2.1 ≠ (TX6 b).2.1 := by decide +kernel
theorem tyX6_ok : ∀ k, k < 13 → parseFieldDescriptor (TX6 k).2.2.1 = some (tyX6 k) := by decide +kernel
abbrev cX6_init : ByteArray := prog_1_method_1_code
def yX6_init : MethodName := ⟨RX6, "<init>", "()V"⟩
abbrev cX6_variables : ByteArray := prog_1_method_2_code
def yX6_variables : MethodName := ⟨RX6, "variables", "(I)I"⟩
abbrev cX6_form : ByteArray := prog_1_method_3_code
def yX6_form : MethodName := ⟨RX6, "form", "()I"⟩
abbrev cX6_term : ByteArray := prog_1_method_4_code
def yX6_term : MethodName := ⟨RX6, "term", "(IIII)I"⟩
abbrev cX6_value : ByteArray := prog_1_method_5_code
def yX6_value : MethodName := ⟨RX6, "value", "(IIIII)J"⟩
abbrev cX6_plain : ByteArray := prog_1_method_6_code
def yX6_plain : MethodName := ⟨RX6, "plain", "(I)I"⟩
abbrev cX6_prove : ByteArray := prog_1_method_7_code
def yX6_prove : MethodName := ⟨RX6, "prove", "(I)I"⟩
abbrev cX6_under : ByteArray := prog_1_method_8_code
def yX6_under : MethodName := ⟨RX6, "under", "(III)I"⟩
abbrev cX6_told : ByteArray := prog_1_method_9_code
def yX6_told : MethodName := ⟨RX6, "told", "(I)I"⟩
abbrev cX6_weight : ByteArray := prog_1_method_10_code
def yX6_weight : MethodName := ⟨RX6, "weight", "(II)J"⟩
abbrev cX6_line : ByteArray := prog_1_method_11_code
def yX6_line : MethodName := ⟨RX6, "line", "(III)J"⟩
abbrev cX6_point : ByteArray := prog_1_method_12_code
def yX6_point : MethodName := ⟨RX6, "point", "(II)J"⟩
abbrev cX6_near : ByteArray := prog_1_method_13_code
def yX6_near : MethodName := ⟨RX6, "near", "(I)J"⟩
abbrev cX6_plant : ByteArray := prog_1_method_14_code
def yX6_plant : MethodName := ⟨RX6, "plant", "(IJJ)I"⟩
abbrev cX6_check : ByteArray := prog_1_method_15_code
def yX6_check : MethodName := ⟨RX6, "check", "()I"⟩
abbrev cX6_equal : ByteArray := prog_1_method_16_code
def yX6_equal : MethodName := ⟨RX6, "equal", "()I"⟩
abbrev cX6_pivot : ByteArray := prog_1_method_17_code
def yX6_pivot : MethodName := ⟨RX6, "pivot", "(JJ)J"⟩
abbrev cX6_count : ByteArray := prog_1_method_18_code
def yX6_count : MethodName := ⟨RX6, "count", "(I)I"⟩
abbrev cX6_isForm : ByteArray := prog_1_method_19_code
def yX6_isForm : MethodName := ⟨RX6, "isForm", "(I)Z"⟩
abbrev cX6_isIndex : ByteArray := prog_1_method_20_code
def yX6_isIndex : MethodName := ⟨RX6, "isIndex", "(I)Z"⟩
abbrev cX6_isSquare : ByteArray := prog_1_method_21_code
def yX6_isSquare : MethodName := ⟨RX6, "isSquare", "(I)Z"⟩
abbrev cX6_isPart : ByteArray := prog_1_method_22_code
def yX6_isPart : MethodName := ⟨RX6, "isPart", "(I)Z"⟩
abbrev cX6_isProved : ByteArray := prog_1_method_23_code
def yX6_isProved : MethodName := ⟨RX6, "isProved", "()Z"⟩
abbrev cX6_startTelling : ByteArray := prog_1_method_24_code
def yX6_startTelling : MethodName := ⟨RX6, "startTelling", "(II)V"⟩
abbrev cX6_endTelling : ByteArray := prog_1_method_25_code
def yX6_endTelling : MethodName := ⟨RX6, "endTelling", "(I)I"⟩
abbrev cX6_multiplierFound : ByteArray := prog_1_method_26_code
def yX6_multiplierFound : MethodName := ⟨RX6, "multiplierFound", "(LSquareSums$Form;LSquareSums$Form;I)Z"⟩
abbrev cX6_wholePointFound : ByteArray := prog_1_method_27_code
def yX6_wholePointFound : MethodName := ⟨RX6, "wholePointFound", "(LSquareSums$Form;LSquareSums$Form;)Z"⟩
abbrev cX6_nextOnGrid : ByteArray := prog_1_method_28_code
def yX6_nextOnGrid : MethodName := ⟨RX6, "nextOnGrid", "()V"⟩
abbrev cX6_expand : ByteArray := prog_1_method_29_code
def yX6_expand : MethodName := ⟨RX6, "expand", "(II)Z"⟩
abbrev cX6_bits : ByteArray := prog_1_method_30_code
def yX6_bits : MethodName := ⟨RX6, "bits", "(D)J"⟩
abbrev cX6_inOrder : ByteArray := prog_1_method_31_code
def yX6_inOrder : MethodName := ⟨RX6, "inOrder", "(II)I"⟩
abbrev cX6_rowOfFractions : ByteArray := prog_1_method_32_code
def yX6_rowOfFractions : MethodName := ⟨RX6, "rowOfFractions", "(I)[LSquareSums$Fraction;"⟩
def RX7 : String := "SquareSumsModel"
def TX7 : u_T := fun k => match k with
  | 0 => ("SquareSumsModel", "n", "I", false)
  | 1 => ("SquareSumsModel", "forms", "I", false)
  | 2 => ("SquareSumsModel", "terms", "[I", true)
  | 3 => ("SquareSumsModel", "proofs", "I", false)
  | 4 => ("SquareSumsModel", "whole", "[I", true)
  | 5 => ("SquareSumsModel", "up", "J", false)
  | 6 => ("SquareSumsModel", "down", "J", false)
  | 7 => ("SquareSumsModel", "isLong", "Z", false)
  | 8 => ("SquareSumsModel", "isByNone", "Z", false)
  | 9 => ("SquareSumsModel", "mUp", "[J", true)
  | 10 => ("SquareSumsModel", "mDown", "[J", true)
  | 11 => ("SquareSumsModel", "firstUp", "[J", true)
  | 12 => ("SquareSumsModel", "firstDown", "[J", true)
  | 13 => ("SquareSumsModel", "isLeft", "[Z", true)
  | 14 => ("SquareSumsModel", "squares", "I", false)
  | 15 => ("SquareSumsModel", "pivot", "[I", true)
  | 16 => ("SquareSumsModel", "weightUp", "[J", true)
  | 17 => ("SquareSumsModel", "weightDown", "[J", true)
  | 18 => ("SquareSumsModel", "lineUp", "[J", true)
  | 19 => ("SquareSumsModel", "lineDown", "[J", true)
  | 20 => ("SquareSumsModel", "with", "[I", true)
  | 21 => ("SquareSumsModel", "oneBelow", "I", false)
  | 22 => ("SquareSumsModel", "pairI", "I", false)
  | 23 => ("SquareSumsModel", "pairJ", "I", false)
  | 24 => ("SquareSumsModel", "savedSquares", "I", false)
  | 25 => ("SquareSumsModel", "savedPivot", "[I", true)
  | 26 => ("SquareSumsModel", "savedWith", "[I", true)
  | 27 => ("SquareSumsModel", "savedWeight", "[J", true)
  | 28 => ("SquareSumsModel", "savedLine", "[J", true)
  | 29 => ("SquareSumsModel", "savedLeft", "[Z", true)
  | 30 => ("SquareSumsModel", "vUp", "[J", true)
  | 31 => ("SquareSumsModel", "vDown", "[J", true)
  | 32 => ("SquareSumsModel", "hasPoint", "Z", false)
  | 33 => ("SquareSumsModel", "pointUp", "[J", true)
  | 34 => ("SquareSumsModel", "pointDown", "[J", true)
  | 35 => ("SquareSumsModel", "answer", "I", false)
  | 36 => ("SquareSumsModel", "goal", "I", false)
  | 37 => ("SquareSumsModel", "condition", "I", false)
  | 38 => ("SquareSumsModel", "multiplierUp", "I", false)
  | 39 => ("SquareSumsModel", "multiplierDown", "I", false)
  | 40 => ("SquareSumsModel", "tried", "I", false)
  | 41 => ("SquareSumsModel", "otherUp", "[J", true)
  | 42 => ("SquareSumsModel", "otherDown", "[J", true)
  | 43 => ("SquareSumsModel", "sumUp", "[J", true)
  | _ => ("SquareSumsModel", "sumDown", "[J", true)
def tyX7 : Nat → FieldType := fun k => match k with
  | 0 => .int
  | 1 => .int
  | 2 => .array .int
  | 3 => .int
  | 4 => .array .int
  | 5 => .long
  | 6 => .long
  | 7 => .boolean
  | 8 => .boolean
  | 9 => .array .long
  | 10 => .array .long
  | 11 => .array .long
  | 12 => .array .long
  | 13 => .array .boolean
  | 14 => .int
  | 15 => .array .int
  | 16 => .array .long
  | 17 => .array .long
  | 18 => .array .long
  | 19 => .array .long
  | 20 => .array .int
  | 21 => .int
  | 22 => .int
  | 23 => .int
  | 24 => .int
  | 25 => .array .int
  | 26 => .array .int
  | 27 => .array .long
  | 28 => .array .long
  | 29 => .array .boolean
  | 30 => .array .long
  | 31 => .array .long
  | 32 => .boolean
  | 33 => .array .long
  | 34 => .array .long
  | 35 => .int
  | 36 => .int
  | 37 => .int
  | 38 => .int
  | 39 => .int
  | 40 => .int
  | 41 => .array .long
  | 42 => .array .long
  | 43 => .array .long
  | _ => .array .long
abbrev wsX70 : List Cond := u_ws RX7 TX7 45
theorem nmX7 : ∀ a, a < 45 → ∀ b, b < 45 → a ≠ b → (TX7 a).2.1 ≠ (TX7 b).2.1 := by decide +kernel
theorem tyX7_ok : ∀ k, k < 45 → parseFieldDescriptor (TX7 k).2.2.1 = some (tyX7 k) := by decide +kernel
abbrev cX7_init : ByteArray := prog_9_method_1_code
def yX7_init : MethodName := ⟨RX7, "<init>", "()V"⟩
abbrev cX7_isIn : ByteArray := prog_9_method_2_code
def yX7_isIn : MethodName := ⟨RX7, "isIn", "(JJJ)Z"⟩
abbrev cX7_isForm : ByteArray := prog_9_method_3_code
def yX7_isForm : MethodName := ⟨RX7, "isForm", "(I)Z"⟩
abbrev cX7_variables : ByteArray := prog_9_method_4_code
def yX7_variables : MethodName := ⟨RX7, "variables", "(I)I"⟩
abbrev cX7_form : ByteArray := prog_9_method_5_code
def yX7_form : MethodName := ⟨RX7, "form", "()I"⟩
abbrev cX7_at : ByteArray := prog_9_method_6_code
def yX7_at : MethodName := ⟨RX7, "at", "(II)I"⟩
abbrev cX7_term : ByteArray := prog_9_method_7_code
def yX7_term : MethodName := ⟨RX7, "term", "(IIII)I"⟩
abbrev cX7_worth : ByteArray := prog_9_method_8_code
def yX7_worth : MethodName := ⟨RX7, "worth", "(I)J"⟩
abbrev cX7_value : ByteArray := prog_9_method_9_code
def yX7_value : MethodName := ⟨RX7, "value", "(IIIII)J"⟩
abbrev cX7_begin : ByteArray := prog_9_method_10_code
def yX7_begin : MethodName := ⟨RX7, "begin", "()V"⟩
abbrev cX7_isWrong : ByteArray := prog_9_method_11_code
def yX7_isWrong : MethodName := ⟨RX7, "isWrong", "()Z"⟩
abbrev cX7_times : ByteArray := prog_9_method_12_code
def yX7_times : MethodName := ⟨RX7, "times", "(JJ)J"⟩
abbrev cX7_add : ByteArray := prog_9_method_13_code
def yX7_add : MethodName := ⟨RX7, "add", "(JJ)J"⟩
abbrev cX7_lowest : ByteArray := prog_9_method_14_code
def yX7_lowest : MethodName := ⟨RX7, "lowest", "(JJ)V"⟩
abbrev cX7_sum : ByteArray := prog_9_method_15_code
def yX7_sum : MethodName := ⟨RX7, "sum", "(JJJJ)V"⟩
abbrev cX7_difference : ByteArray := prog_9_method_16_code
def yX7_difference : MethodName := ⟨RX7, "difference", "(JJJJ)V"⟩
abbrev cX7_product : ByteArray := prog_9_method_17_code
def yX7_product : MethodName := ⟨RX7, "product", "(JJJJ)V"⟩
abbrev cX7_quotient : ByteArray := prog_9_method_18_code
def yX7_quotient : MethodName := ⟨RX7, "quotient", "(JJJJ)V"⟩
abbrev cX7_inOrder : ByteArray := prog_9_method_19_code
def yX7_inOrder : MethodName := ⟨RX7, "inOrder", "(I)I"⟩
abbrev cX7_matrix : ByteArray := prog_9_method_20_code
def yX7_matrix : MethodName := ⟨RX7, "matrix", "(I)V"⟩
abbrev cX7_keepMatrix : ByteArray := prog_9_method_21_code
def yX7_keepMatrix : MethodName := ⟨RX7, "keepMatrix", "()V"⟩
abbrev cX7_into : ByteArray := prog_9_method_22_code
def yX7_into : MethodName := ⟨RX7, "into", "(II)V"⟩
abbrev cX7_divide : ByteArray := prog_9_method_23_code
def yX7_divide : MethodName := ⟨RX7, "divide", "(I)V"⟩
abbrev cX7_firstDiagonal : ByteArray := prog_9_method_24_code
def yX7_firstDiagonal : MethodName := ⟨RX7, "firstDiagonal", "(Z)I"⟩
abbrev cX7_findPair : ByteArray := prog_9_method_25_code
def yX7_findPair : MethodName := ⟨RX7, "findPair", "()Z"⟩
abbrev cX7_eliminate : ByteArray := prog_9_method_26_code
def yX7_eliminate : MethodName := ⟨RX7, "eliminate", "()I"⟩
abbrev cX7_plain : ByteArray := prog_9_method_27_code
def yX7_plain : MethodName := ⟨RX7, "plain", "(I)I"⟩
abbrev cX7_save : ByteArray := prog_9_method_28_code
def yX7_save : MethodName := ⟨RX7, "save", "()V"⟩
abbrev cX7_restore : ByteArray := prog_9_method_29_code
def yX7_restore : MethodName := ⟨RX7, "restore", "()V"⟩
abbrev cX7_noWitness : ByteArray := prog_9_method_30_code
def yX7_noWitness : MethodName := ⟨RX7, "noWitness", "()V"⟩
abbrev cX7_goBack : ByteArray := prog_9_method_31_code
def yX7_goBack : MethodName := ⟨RX7, "goBack", "()V"⟩
abbrev cX7_pointBy : ByteArray := prog_9_method_32_code
def yX7_pointBy : MethodName := ⟨RX7, "pointBy", "(I)Z"⟩
abbrev cX7_isBelow : ByteArray := prog_9_method_33_code
def yX7_isBelow : MethodName := ⟨RX7, "isBelow", "(I)Z"⟩
abbrev cX7_beginProof : ByteArray := prog_9_method_34_code
def yX7_beginProof : MethodName := ⟨RX7, "beginProof", "(II)V"⟩
abbrev cX7_end : ByteArray := prog_9_method_35_code
def yX7_end : MethodName := ⟨RX7, "end", "(I)I"⟩
abbrev cX7_prove : ByteArray := prog_9_method_36_code
def yX7_prove : MethodName := ⟨RX7, "prove", "(I)I"⟩
abbrev cX7_isLowest : ByteArray := prog_9_method_37_code
def yX7_isLowest : MethodName := ⟨RX7, "isLowest", "(II)Z"⟩
abbrev cX7_isDoneBy : ByteArray := prog_9_method_38_code
def yX7_isDoneBy : MethodName := ⟨RX7, "isDoneBy", "(II)Z"⟩
abbrev cX7_under : ByteArray := prog_9_method_39_code
def yX7_under : MethodName := ⟨RX7, "under", "(III)I"⟩
abbrev cX7_isThere : ByteArray := prog_9_method_40_code
def yX7_isThere : MethodName := ⟨RX7, "isThere", "()Z"⟩
abbrev cX7_told : ByteArray := prog_9_method_41_code
def yX7_told : MethodName := ⟨RX7, "told", "(I)I"⟩
abbrev cX7_isSquare : ByteArray := prog_9_method_42_code
def yX7_isSquare : MethodName := ⟨RX7, "isSquare", "(I)Z"⟩
abbrev cX7_weight : ByteArray := prog_9_method_43_code
def yX7_weight : MethodName := ⟨RX7, "weight", "(II)J"⟩
abbrev cX7_line : ByteArray := prog_9_method_44_code
def yX7_line : MethodName := ⟨RX7, "line", "(III)J"⟩
abbrev cX7_point : ByteArray := prog_9_method_45_code
def yX7_point : MethodName := ⟨RX7, "point", "(II)J"⟩
abbrev cX7_near : ByteArray := prog_9_method_46_code
def yX7_near : MethodName := ⟨RX7, "near", "(I)J"⟩
abbrev cX7_plant : ByteArray := prog_9_method_47_code
def yX7_plant : MethodName := ⟨RX7, "plant", "(IJJ)I"⟩
abbrev cX7_check : ByteArray := prog_9_method_48_code
def yX7_check : MethodName := ⟨RX7, "check", "()I"⟩
abbrev cX7_equal : ByteArray := prog_9_method_49_code
def yX7_equal : MethodName := ⟨RX7, "equal", "()I"⟩
abbrev cX7_pivot : ByteArray := prog_9_method_50_code
def yX7_pivot : MethodName := ⟨RX7, "pivot", "(JJ)J"⟩
abbrev cX7_count : ByteArray := prog_9_method_51_code
def yX7_count : MethodName := ⟨RX7, "count", "(I)I"⟩
def RJx145de : String := "java/io/Serializable"
def TJx145de : u_T := fun k => match k with
  | _ => ("", "", "", false)
def tyJx145de : Nat → FieldType := fun k => match k with
  | _ => .int
abbrev wsJx145de0 : List Cond := u_ws RJx145de TJx145de 0
def RJxb160c : String := "java/lang/Comparable"
def TJxb160c : u_T := fun k => match k with
  | _ => ("", "", "", false)
def tyJxb160c : Nat → FieldType := fun k => match k with
  | _ => .int
abbrev wsJxb160c0 : List Cond := u_ws RJxb160c TJxb160c 0
def RJxe99ae : String := "java/lang/Double"
def TJxe99ae : u_T := fun k => match k with
  | _ => ("", "", "", false)
def tyJxe99ae : Nat → FieldType := fun k => match k with
  | _ => .int
abbrev wsJxe99ae0 : List Cond := u_ws RJxe99ae TJxe99ae 0
abbrev cJxe99ae_isNaN_b9ae7 : ByteArray := prog_10_method_6_code
def yJxe99ae_isNaN_b9ae7 : MethodName := ⟨RJxe99ae, "isNaN", "(D)Z"⟩
abbrev cJxe99ae_doubleToLongBits_ccdee : ByteArray := prog_10_method_23_code
def yJxe99ae_doubleToLongBits_ccdee : MethodName := ⟨RJxe99ae, "doubleToLongBits", "(D)J"⟩
def RJ13 : String := "java/lang/Long"
def TJ13 : u_T := fun k => match k with
  | _ => ("", "", "", false)
def tyJ13 : Nat → FieldType := fun k => match k with
  | _ => .int
abbrev wsJ130 : List Cond := u_ws RJ13 TJ13 0
abbrev cJ13_compare_74951 : ByteArray := prog_11_method_42_code
def yJ13_compare_74951 : MethodName := ⟨RJ13, "compare", "(JJ)I"⟩
def RJ9 : String := "java/lang/Math"
def TJ9 : u_T := fun k => match k with
  | _ => ("", "", "", false)
def tyJ9 : Nat → FieldType := fun k => match k with
  | _ => .int
abbrev wsJ90 : List Cond := u_ws RJ9 TJ9 0
abbrev cJ9_max_7cf53 : ByteArray := prog_12_method_65_code
def yJ9_max_7cf53 : MethodName := ⟨RJ9, "max", "(II)I"⟩
abbrev cJ9_min_7cf53 : ByteArray := prog_12_method_69_code
def yJ9_min_7cf53 : MethodName := ⟨RJ9, "min", "(II)I"⟩
def RJxd2413 : String := "java/lang/Number"
def TJxd2413 : u_T := fun k => match k with
  | _ => ("", "", "", false)
def tyJxd2413 : Nat → FieldType := fun k => match k with
  | _ => .int
abbrev wsJxd24130 : List Cond := u_ws RJxd2413 TJxd2413 0
def RJxfd54e : String := "java/lang/constant/Constable"
def TJxfd54e : u_T := fun k => match k with
  | _ => ("", "", "", false)
def tyJxfd54e : Nat → FieldType := fun k => match k with
  | _ => .int
abbrev wsJxfd54e0 : List Cond := u_ws RJxfd54e TJxfd54e 0
def RJx3cf43 : String := "java/lang/constant/ConstantDesc"
def TJx3cf43 : u_T := fun k => match k with
  | _ => ("", "", "", false)
def tyJx3cf43 : Nat → FieldType := fun k => match k with
  | _ => .int
abbrev wsJx3cf430 : List Cond := u_ws RJx3cf43 TJx3cf43 0
def RJ7 : String := "java/util/Arrays"
def TJ7 : u_T := fun k => match k with
  | _ => ("", "", "", false)
def tyJ7 : Nat → FieldType := fun k => match k with
  | _ => .int
abbrev wsJ70 : List Cond := u_ws RJ7 TJ7 0
abbrev cJ7_fill_53178 : ByteArray := prog_14_method_103_code
def yJ7_fill_53178 : MethodName := ⟨RJ7, "fill", "([II)V"⟩
def RL : String := "SquareSumsLaw"
abbrev cL_law : ByteArray := code
def yL_law : MethodName := ⟨RL, "law", "([I)Z"⟩
abbrev vwCl : List vw_C := [(RX0, TX0, 10), (RX1, TX1, 1), (RX2, TX2, 2), (RX3, TX3, 2), (RX4, TX4, 4), (RX5, TX5, 3), (RX6, TX6, 13), (RX7, TX7, 45)]
theorem inX0 : ∀ w ∈ wsX00, w ∈ lw_tbl := by decide +kernel
theorem inX1 : ∀ w ∈ wsX10, w ∈ lw_tbl := by decide +kernel
theorem inX2 : ∀ w ∈ wsX20, w ∈ lw_tbl := by decide +kernel
theorem inX3 : ∀ w ∈ wsX30, w ∈ lw_tbl := by decide +kernel
theorem inX4 : ∀ w ∈ wsX40, w ∈ lw_tbl := by decide +kernel
theorem inX5 : ∀ w ∈ wsX50, w ∈ lw_tbl := by decide +kernel
theorem inX6 : ∀ w ∈ wsX60, w ∈ lw_tbl := by decide +kernel
theorem inX7 : ∀ w ∈ wsX70, w ∈ lw_tbl := by decide +kernel
