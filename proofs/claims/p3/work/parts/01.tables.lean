-- ===== PART A: goes FIRST, ahead of the names: the tables' words, and 'selects' of the private methods out of them =====
/-- a private method of a class that the tables say can be made, by its rows of tables_1 -/
def lw_okq (q : MethodName × Nat) : Prop := (q.1.cls ≠ "java/lang/invoke/MethodHandle" ∧ q.1.cls ≠ "java/lang/invoke/VarHandle") ∧ Cond.instantiable q.1.cls q.2 ∈ tables_1 ∧ Cond.privateMethod q.1 ∈ tables_1 ∧ Cond.instanceMethod q.1 ∈ tables_1
theorem lw_p0 : lw_okq (⟨"SueOrSettle$Things", "levelWeights", "(I)V"⟩, 8) := ⟨⟨by decide +kernel, by decide +kernel⟩, List.mem_of_getElem? (i := 26) (by decide +kernel), List.mem_of_getElem? (i := 291) (by decide +kernel), List.mem_of_getElem? (i := 292) (by decide +kernel)⟩
theorem lw_p1 : lw_okq (⟨"SueOrSettle$Things", "rowsOf", "(I)I"⟩, 8) := ⟨⟨by decide +kernel, by decide +kernel⟩, List.mem_of_getElem? (i := 26) (by decide +kernel), List.mem_of_getElem? (i := 323) (by decide +kernel), List.mem_of_getElem? (i := 324) (by decide +kernel)⟩
theorem lw_p2 : lw_okq (⟨"SueOrSettle", "remember", "(III)V"⟩, 17) := ⟨⟨by decide +kernel, by decide +kernel⟩, List.mem_of_getElem? (i := 18) (by decide +kernel), List.mem_of_getElem? (i := 336) (by decide +kernel), List.mem_of_getElem? (i := 337) (by decide +kernel)⟩
theorem lw_p3 : lw_okq (⟨"SueOrSettle$Things", "commonMultiple", "(I)J"⟩, 8) := ⟨⟨by decide +kernel, by decide +kernel⟩, List.mem_of_getElem? (i := 26) (by decide +kernel), List.mem_of_getElem? (i := 355) (by decide +kernel), List.mem_of_getElem? (i := 356) (by decide +kernel)⟩
theorem lw_p4 : lw_okq (⟨"SueOrSettle$Things", "weighStates", "()V"⟩, 8) := ⟨⟨by decide +kernel, by decide +kernel⟩, List.mem_of_getElem? (i := 26) (by decide +kernel), List.mem_of_getElem? (i := 367) (by decide +kernel), List.mem_of_getElem? (i := 368) (by decide +kernel)⟩
theorem lw_p5 : lw_okq (⟨"SueOrSettle$Things", "spread", "(I)V"⟩, 8) := ⟨⟨by decide +kernel, by decide +kernel⟩, List.mem_of_getElem? (i := 26) (by decide +kernel), List.mem_of_getElem? (i := 371) (by decide +kernel), List.mem_of_getElem? (i := 372) (by decide +kernel)⟩
theorem lw_p6 : lw_okq (⟨"SueOrSettle$Things", "addUp", "(I)V"⟩, 8) := ⟨⟨by decide +kernel, by decide +kernel⟩, List.mem_of_getElem? (i := 26) (by decide +kernel), List.mem_of_getElem? (i := 375) (by decide +kernel), List.mem_of_getElem? (i := 376) (by decide +kernel)⟩
theorem lw_p7 : lw_okq (⟨"SueOrSettle$Reader", "sign", "()I"⟩, 15) := ⟨⟨by decide +kernel, by decide +kernel⟩, List.mem_of_getElem? (i := 61) (by decide +kernel), List.mem_of_getElem? (i := 444) (by decide +kernel), List.mem_of_getElem? (i := 445) (by decide +kernel)⟩
theorem lw_p8 : lw_okq (⟨"SueOrSettle$Reader", "pass", "(I)V"⟩, 15) := ⟨⟨by decide +kernel, by decide +kernel⟩, List.mem_of_getElem? (i := 61) (by decide +kernel), List.mem_of_getElem? (i := 448) (by decide +kernel), List.mem_of_getElem? (i := 449) (by decide +kernel)⟩
theorem lw_p9 : lw_okq (⟨"SueOrSettle$Reader", "fail", "()V"⟩, 15) := ⟨⟨by decide +kernel, by decide +kernel⟩, List.mem_of_getElem? (i := 61) (by decide +kernel), List.mem_of_getElem? (i := 452) (by decide +kernel), List.mem_of_getElem? (i := 453) (by decide +kernel)⟩
theorem lw_p10 : lw_okq (⟨"SueOrSettle$Reader", "readNode", "(LSueOrSettle$Things;II)I"⟩, 15) := ⟨⟨by decide +kernel, by decide +kernel⟩, List.mem_of_getElem? (i := 61) (by decide +kernel), List.mem_of_getElem? (i := 456) (by decide +kernel), List.mem_of_getElem? (i := 457) (by decide +kernel)⟩
theorem lw_p11 : lw_okq (⟨"SueOrSettle$Reader", "readChoice", "(LSueOrSettle$Things;II)I"⟩, 15) := ⟨⟨by decide +kernel, by decide +kernel⟩, List.mem_of_getElem? (i := 61) (by decide +kernel), List.mem_of_getElem? (i := 460) (by decide +kernel), List.mem_of_getElem? (i := 461) (by decide +kernel)⟩
theorem lw_p12 : lw_okq (⟨"SueOrSettle$Reader", "passOpening", "(I)V"⟩, 15) := ⟨⟨by decide +kernel, by decide +kernel⟩, List.mem_of_getElem? (i := 61) (by decide +kernel), List.mem_of_getElem? (i := 464) (by decide +kernel), List.mem_of_getElem? (i := 465) (by decide +kernel)⟩
theorem lw_p13 : lw_okq (⟨"SueOrSettle$Reader", "newNode", "(I)I"⟩, 15) := ⟨⟨by decide +kernel, by decide +kernel⟩, List.mem_of_getElem? (i := 61) (by decide +kernel), List.mem_of_getElem? (i := 468) (by decide +kernel), List.mem_of_getElem? (i := 469) (by decide +kernel)⟩
theorem lw_p14 : lw_okq (⟨"SueOrSettle$Reader", "readNumber", "(I)I"⟩, 15) := ⟨⟨by decide +kernel, by decide +kernel⟩, List.mem_of_getElem? (i := 61) (by decide +kernel), List.mem_of_getElem? (i := 472) (by decide +kernel), List.mem_of_getElem? (i := 473) (by decide +kernel)⟩
theorem lw_p15 : lw_okq (⟨"SueOrSettle$Reader", "isDigit", "()Z"⟩, 15) := ⟨⟨by decide +kernel, by decide +kernel⟩, List.mem_of_getElem? (i := 61) (by decide +kernel), List.mem_of_getElem? (i := 476) (by decide +kernel), List.mem_of_getElem? (i := 477) (by decide +kernel)⟩
def lw_privs_1 : List (MethodName × Nat) := [(⟨"SueOrSettle$Things", "levelWeights", "(I)V"⟩, 8), (⟨"SueOrSettle$Things", "rowsOf", "(I)I"⟩, 8), (⟨"SueOrSettle", "remember", "(III)V"⟩, 17), (⟨"SueOrSettle$Things", "commonMultiple", "(I)J"⟩, 8), (⟨"SueOrSettle$Things", "weighStates", "()V"⟩, 8), (⟨"SueOrSettle$Things", "spread", "(I)V"⟩, 8), (⟨"SueOrSettle$Things", "addUp", "(I)V"⟩, 8), (⟨"SueOrSettle$Reader", "sign", "()I"⟩, 15), (⟨"SueOrSettle$Reader", "pass", "(I)V"⟩, 15), (⟨"SueOrSettle$Reader", "fail", "()V"⟩, 15), (⟨"SueOrSettle$Reader", "readNode", "(LSueOrSettle$Things;II)I"⟩, 15), (⟨"SueOrSettle$Reader", "readChoice", "(LSueOrSettle$Things;II)I"⟩, 15), (⟨"SueOrSettle$Reader", "passOpening", "(I)V"⟩, 15), (⟨"SueOrSettle$Reader", "newNode", "(I)I"⟩, 15), (⟨"SueOrSettle$Reader", "readNumber", "(I)I"⟩, 15), (⟨"SueOrSettle$Reader", "isDigit", "()Z"⟩, 15)]
theorem lw_r1 : ∀ q ∈ lw_privs_1, lw_okq q := List.forall_mem_cons.mpr ⟨lw_p0, List.forall_mem_cons.mpr ⟨lw_p1, List.forall_mem_cons.mpr ⟨lw_p2, List.forall_mem_cons.mpr ⟨lw_p3, List.forall_mem_cons.mpr ⟨lw_p4, List.forall_mem_cons.mpr ⟨lw_p5, List.forall_mem_cons.mpr ⟨lw_p6, List.forall_mem_cons.mpr ⟨lw_p7, List.forall_mem_cons.mpr ⟨lw_p8, List.forall_mem_cons.mpr ⟨lw_p9, List.forall_mem_cons.mpr ⟨lw_p10, List.forall_mem_cons.mpr ⟨lw_p11, List.forall_mem_cons.mpr ⟨lw_p12, List.forall_mem_cons.mpr ⟨lw_p13, List.forall_mem_cons.mpr ⟨lw_p14, List.forall_mem_cons.mpr ⟨lw_p15, fun _ h => absurd h List.not_mem_nil⟩⟩⟩⟩⟩⟩⟩⟩⟩⟩⟩⟩⟩⟩⟩⟩
theorem lw_p16 : lw_okq (⟨"SueOrSettle$Reader", "lead", "(IIII)V"⟩, 15) := ⟨⟨by decide +kernel, by decide +kernel⟩, List.mem_of_getElem? (i := 61) (by decide +kernel), List.mem_of_getElem? (i := 480) (by decide +kernel), List.mem_of_getElem? (i := 481) (by decide +kernel)⟩
theorem lw_p17 : lw_okq (⟨"SueOrSettle$Reader", "readTurns", "(LSueOrSettle$Things;II)I"⟩, 15) := ⟨⟨by decide +kernel, by decide +kernel⟩, List.mem_of_getElem? (i := 61) (by decide +kernel), List.mem_of_getElem? (i := 490) (by decide +kernel), List.mem_of_getElem? (i := 491) (by decide +kernel)⟩
theorem lw_p18 : lw_okq (⟨"SueOrSettle$Reader", "readCapital", "(II)I"⟩, 15) := ⟨⟨by decide +kernel, by decide +kernel⟩, List.mem_of_getElem? (i := 61) (by decide +kernel), List.mem_of_getElem? (i := 499) (by decide +kernel), List.mem_of_getElem? (i := 500) (by decide +kernel)⟩
theorem lw_p19 : lw_okq (⟨"SueOrSettle$Reader", "readEnd", "()I"⟩, 15) := ⟨⟨by decide +kernel, by decide +kernel⟩, List.mem_of_getElem? (i := 61) (by decide +kernel), List.mem_of_getElem? (i := 503) (by decide +kernel), List.mem_of_getElem? (i := 504) (by decide +kernel)⟩
theorem lw_p20 : lw_okq (⟨"SueOrSettle$Reader", "writeOut", "(LSueOrSettle$Quarrel;IIII)I"⟩, 15) := ⟨⟨by decide +kernel, by decide +kernel⟩, List.mem_of_getElem? (i := 61) (by decide +kernel), List.mem_of_getElem? (i := 569) (by decide +kernel), List.mem_of_getElem? (i := 570) (by decide +kernel)⟩
theorem lw_p21 : lw_okq (⟨"SueOrSettle", "quarrelAt", "(I)LSueOrSettle$Quarrel;"⟩, 17) := ⟨⟨by decide +kernel, by decide +kernel⟩, List.mem_of_getElem? (i := 18) (by decide +kernel), List.mem_of_getElem? (i := 593) (by decide +kernel), List.mem_of_getElem? (i := 594) (by decide +kernel)⟩
theorem lw_p22 : lw_okq (⟨"SueOrSettle", "restore", "(II)V"⟩, 17) := ⟨⟨by decide +kernel, by decide +kernel⟩, List.mem_of_getElem? (i := 18) (by decide +kernel), List.mem_of_getElem? (i := 657) (by decide +kernel), List.mem_of_getElem? (i := 658) (by decide +kernel)⟩
theorem lw_p23 : lw_okq (⟨"SueOrSettle", "newFeeling", "(III)LSueOrSettle$End;"⟩, 17) := ⟨⟨by decide +kernel, by decide +kernel⟩, List.mem_of_getElem? (i := 18) (by decide +kernel), List.mem_of_getElem? (i := 669) (by decide +kernel), List.mem_of_getElem? (i := 670) (by decide +kernel)⟩
theorem lw_p24 : lw_okq (⟨"SueOrSettle", "feelingAt", "(I)LSueOrSettle$End;"⟩, 17) := ⟨⟨by decide +kernel, by decide +kernel⟩, List.mem_of_getElem? (i := 18) (by decide +kernel), List.mem_of_getElem? (i := 739) (by decide +kernel), List.mem_of_getElem? (i := 740) (by decide +kernel)⟩
theorem lw_p25 : lw_okq (⟨"SueOrSettle$Sense", "sumOver", "(II)I"⟩, 6) := ⟨⟨by decide +kernel, by decide +kernel⟩, List.mem_of_getElem? (i := 118) (by decide +kernel), List.mem_of_getElem? (i := 754) (by decide +kernel), List.mem_of_getElem? (i := 755) (by decide +kernel)⟩
theorem lw_p26 : lw_okq (⟨"SueOrSettle$Quarrel", "weighEnds", "(LSueOrSettle$Things;LSueOrSettle$End;I)V"⟩, 14) := ⟨⟨by decide +kernel, by decide +kernel⟩, List.mem_of_getElem? (i := 516) (by decide +kernel), List.mem_of_getElem? (i := 776) (by decide +kernel), List.mem_of_getElem? (i := 777) (by decide +kernel)⟩
theorem lw_p27 : lw_okq (⟨"SueOrSettle$Quarrel", "rise", "(ZZ)J"⟩, 14) := ⟨⟨by decide +kernel, by decide +kernel⟩, List.mem_of_getElem? (i := 516) (by decide +kernel), List.mem_of_getElem? (i := 799) (by decide +kernel), List.mem_of_getElem? (i := 800) (by decide +kernel)⟩
theorem lw_p28 : lw_okq (⟨"SueOrSettle$Quarrel", "bestWay", "(IIJ)I"⟩, 14) := ⟨⟨by decide +kernel, by decide +kernel⟩, List.mem_of_getElem? (i := 516) (by decide +kernel), List.mem_of_getElem? (i := 803) (by decide +kernel), List.mem_of_getElem? (i := 804) (by decide +kernel)⟩
theorem lw_p29 : lw_okq (⟨"SueOrSettle$Quarrel", "turnedWorth", "(IZ)J"⟩, 14) := ⟨⟨by decide +kernel, by decide +kernel⟩, List.mem_of_getElem? (i := 516) (by decide +kernel), List.mem_of_getElem? (i := 807) (by decide +kernel), List.mem_of_getElem? (i := 808) (by decide +kernel)⟩
theorem lw_p30 : lw_okq (⟨"SueOrSettle", "worthOf", "(LSueOrSettle$Quarrel;LSueOrSettle$End;JI)J"⟩, 17) := ⟨⟨by decide +kernel, by decide +kernel⟩, List.mem_of_getElem? (i := 18) (by decide +kernel), List.mem_of_getElem? (i := 819) (by decide +kernel), List.mem_of_getElem? (i := 820) (by decide +kernel)⟩
theorem lw_p31 : lw_okq (⟨"SueOrSettle$Quarrel", "greatestValue", "(I)I"⟩, 14) := ⟨⟨by decide +kernel, by decide +kernel⟩, List.mem_of_getElem? (i := 516) (by decide +kernel), List.mem_of_getElem? (i := 844) (by decide +kernel), List.mem_of_getElem? (i := 845) (by decide +kernel)⟩
def lw_privs_2 : List (MethodName × Nat) := [(⟨"SueOrSettle$Reader", "lead", "(IIII)V"⟩, 15), (⟨"SueOrSettle$Reader", "readTurns", "(LSueOrSettle$Things;II)I"⟩, 15), (⟨"SueOrSettle$Reader", "readCapital", "(II)I"⟩, 15), (⟨"SueOrSettle$Reader", "readEnd", "()I"⟩, 15), (⟨"SueOrSettle$Reader", "writeOut", "(LSueOrSettle$Quarrel;IIII)I"⟩, 15), (⟨"SueOrSettle", "quarrelAt", "(I)LSueOrSettle$Quarrel;"⟩, 17), (⟨"SueOrSettle", "restore", "(II)V"⟩, 17), (⟨"SueOrSettle", "newFeeling", "(III)LSueOrSettle$End;"⟩, 17), (⟨"SueOrSettle", "feelingAt", "(I)LSueOrSettle$End;"⟩, 17), (⟨"SueOrSettle$Sense", "sumOver", "(II)I"⟩, 6), (⟨"SueOrSettle$Quarrel", "weighEnds", "(LSueOrSettle$Things;LSueOrSettle$End;I)V"⟩, 14), (⟨"SueOrSettle$Quarrel", "rise", "(ZZ)J"⟩, 14), (⟨"SueOrSettle$Quarrel", "bestWay", "(IIJ)I"⟩, 14), (⟨"SueOrSettle$Quarrel", "turnedWorth", "(IZ)J"⟩, 14), (⟨"SueOrSettle", "worthOf", "(LSueOrSettle$Quarrel;LSueOrSettle$End;JI)J"⟩, 17), (⟨"SueOrSettle$Quarrel", "greatestValue", "(I)I"⟩, 14)]
theorem lw_r2 : ∀ q ∈ lw_privs_2, lw_okq q := List.forall_mem_cons.mpr ⟨lw_p16, List.forall_mem_cons.mpr ⟨lw_p17, List.forall_mem_cons.mpr ⟨lw_p18, List.forall_mem_cons.mpr ⟨lw_p19, List.forall_mem_cons.mpr ⟨lw_p20, List.forall_mem_cons.mpr ⟨lw_p21, List.forall_mem_cons.mpr ⟨lw_p22, List.forall_mem_cons.mpr ⟨lw_p23, List.forall_mem_cons.mpr ⟨lw_p24, List.forall_mem_cons.mpr ⟨lw_p25, List.forall_mem_cons.mpr ⟨lw_p26, List.forall_mem_cons.mpr ⟨lw_p27, List.forall_mem_cons.mpr ⟨lw_p28, List.forall_mem_cons.mpr ⟨lw_p29, List.forall_mem_cons.mpr ⟨lw_p30, List.forall_mem_cons.mpr ⟨lw_p31, fun _ h => absurd h List.not_mem_nil⟩⟩⟩⟩⟩⟩⟩⟩⟩⟩⟩⟩⟩⟩⟩⟩
theorem lw_p32 : lw_okq (⟨"SueOrSettle$Quarrel", "reachByPlan", "()V"⟩, 14) := ⟨⟨by decide +kernel, by decide +kernel⟩, List.mem_of_getElem? (i := 516) (by decide +kernel), List.mem_of_getElem? (i := 881) (by decide +kernel), List.mem_of_getElem? (i := 882) (by decide +kernel)⟩
theorem lw_p33 : lw_okq (⟨"SueOrSettle$Quarrel", "isBettered", "(ILSueOrSettle$End;J)Z"⟩, 14) := ⟨⟨by decide +kernel, by decide +kernel⟩, List.mem_of_getElem? (i := 516) (by decide +kernel), List.mem_of_getElem? (i := 885) (by decide +kernel), List.mem_of_getElem? (i := 886) (by decide +kernel)⟩
theorem lw_p34 : lw_okq (⟨"SueOrSettle", "edgeOfWeight", "(LSueOrSettle$Quarrel;II)I"⟩, 17) := ⟨⟨by decide +kernel, by decide +kernel⟩, List.mem_of_getElem? (i := 18) (by decide +kernel), List.mem_of_getElem? (i := 932) (by decide +kernel), List.mem_of_getElem? (i := 933) (by decide +kernel)⟩
theorem lw_p35 : lw_okq (⟨"SueOrSettle$Quarrel", "turnsFirst", "(IJ)Z"⟩, 14) := ⟨⟨by decide +kernel, by decide +kernel⟩, List.mem_of_getElem? (i := 516) (by decide +kernel), List.mem_of_getElem? (i := 953) (by decide +kernel), List.mem_of_getElem? (i := 954) (by decide +kernel)⟩
theorem lw_p36 : lw_okq (⟨"SueOrSettle", "isDoubt", "(II)Z"⟩, 17) := ⟨⟨by decide +kernel, by decide +kernel⟩, List.mem_of_getElem? (i := 18) (by decide +kernel), List.mem_of_getElem? (i := 965) (by decide +kernel), List.mem_of_getElem? (i := 966) (by decide +kernel)⟩
theorem lw_p37 : lw_okq (⟨"SueOrSettle", "isBigWithin", "(II)Z"⟩, 17) := ⟨⟨by decide +kernel, by decide +kernel⟩, List.mem_of_getElem? (i := 18) (by decide +kernel), List.mem_of_getElem? (i := 969) (by decide +kernel), List.mem_of_getElem? (i := 970) (by decide +kernel)⟩
theorem lw_p38 : lw_okq (⟨"SueOrSettle", "timesHeld", "(LSueOrSettle$Quarrel;II)I"⟩, 17) := ⟨⟨by decide +kernel, by decide +kernel⟩, List.mem_of_getElem? (i := 18) (by decide +kernel), List.mem_of_getElem? (i := 974) (by decide +kernel), List.mem_of_getElem? (i := 975) (by decide +kernel)⟩
theorem lw_p39 : lw_okq (⟨"SueOrSettle", "timesSteady", "(LSueOrSettle$Quarrel;II)I"⟩, 17) := ⟨⟨by decide +kernel, by decide +kernel⟩, List.mem_of_getElem? (i := 18) (by decide +kernel), List.mem_of_getElem? (i := 979) (by decide +kernel), List.mem_of_getElem? (i := 980) (by decide +kernel)⟩
theorem lw_p40 : lw_okq (⟨"SueOrSettle", "countPlan", "(I)I"⟩, 17) := ⟨⟨by decide +kernel, by decide +kernel⟩, List.mem_of_getElem? (i := 18) (by decide +kernel), List.mem_of_getElem? (i := 987) (by decide +kernel), List.mem_of_getElem? (i := 988) (by decide +kernel)⟩
theorem lw_p41 : lw_okq (⟨"SueOrSettle", "leastWorth", "(LSueOrSettle$Quarrel;III)J"⟩, 17) := ⟨⟨by decide +kernel, by decide +kernel⟩, List.mem_of_getElem? (i := 18) (by decide +kernel), List.mem_of_getElem? (i := 1000) (by decide +kernel), List.mem_of_getElem? (i := 1001) (by decide +kernel)⟩
theorem lw_p42 : lw_okq (⟨"SueOrSettle$Sides", "gets", "(III)I"⟩, 15) := ⟨⟨by decide +kernel, by decide +kernel⟩, List.mem_of_getElem? (i := 175) (by decide +kernel), List.mem_of_getElem? (i := 1026) (by decide +kernel), List.mem_of_getElem? (i := 1027) (by decide +kernel)⟩
theorem lw_p43 : lw_okq (⟨"SueOrSettle$Sides", "isSure", "(II)Z"⟩, 15) := ⟨⟨by decide +kernel, by decide +kernel⟩, List.mem_of_getElem? (i := 175) (by decide +kernel), List.mem_of_getElem? (i := 1042) (by decide +kernel), List.mem_of_getElem? (i := 1043) (by decide +kernel)⟩
theorem lw_p44 : lw_okq (⟨"SueOrSettle$Sides", "isSettled", "()Z"⟩, 15) := ⟨⟨by decide +kernel, by decide +kernel⟩, List.mem_of_getElem? (i := 175) (by decide +kernel), List.mem_of_getElem? (i := 1058) (by decide +kernel), List.mem_of_getElem? (i := 1059) (by decide +kernel)⟩
theorem lw_p45 : lw_okq (⟨"SueOrSettle$Sides", "sureOfOne", "()I"⟩, 15) := ⟨⟨by decide +kernel, by decide +kernel⟩, List.mem_of_getElem? (i := 175) (by decide +kernel), List.mem_of_getElem? (i := 1064) (by decide +kernel), List.mem_of_getElem? (i := 1065) (by decide +kernel)⟩
theorem lw_p46 : lw_okq (⟨"SueOrSettle$Sides", "duelMix", "()I"⟩, 15) := ⟨⟨by decide +kernel, by decide +kernel⟩, List.mem_of_getElem? (i := 175) (by decide +kernel), List.mem_of_getElem? (i := 1068) (by decide +kernel), List.mem_of_getElem? (i := 1069) (by decide +kernel)⟩
theorem lw_p47 : lw_okq (⟨"SueOrSettle$Sides", "lineToStrike", "(III)I"⟩, 15) := ⟨⟨by decide +kernel, by decide +kernel⟩, List.mem_of_getElem? (i := 175) (by decide +kernel), List.mem_of_getElem? (i := 1084) (by decide +kernel), List.mem_of_getElem? (i := 1085) (by decide +kernel)⟩
def lw_privs_3 : List (MethodName × Nat) := [(⟨"SueOrSettle$Quarrel", "reachByPlan", "()V"⟩, 14), (⟨"SueOrSettle$Quarrel", "isBettered", "(ILSueOrSettle$End;J)Z"⟩, 14), (⟨"SueOrSettle", "edgeOfWeight", "(LSueOrSettle$Quarrel;II)I"⟩, 17), (⟨"SueOrSettle$Quarrel", "turnsFirst", "(IJ)Z"⟩, 14), (⟨"SueOrSettle", "isDoubt", "(II)Z"⟩, 17), (⟨"SueOrSettle", "isBigWithin", "(II)Z"⟩, 17), (⟨"SueOrSettle", "timesHeld", "(LSueOrSettle$Quarrel;II)I"⟩, 17), (⟨"SueOrSettle", "timesSteady", "(LSueOrSettle$Quarrel;II)I"⟩, 17), (⟨"SueOrSettle", "countPlan", "(I)I"⟩, 17), (⟨"SueOrSettle", "leastWorth", "(LSueOrSettle$Quarrel;III)J"⟩, 17), (⟨"SueOrSettle$Sides", "gets", "(III)I"⟩, 15), (⟨"SueOrSettle$Sides", "isSure", "(II)Z"⟩, 15), (⟨"SueOrSettle$Sides", "isSettled", "()Z"⟩, 15), (⟨"SueOrSettle$Sides", "sureOfOne", "()I"⟩, 15), (⟨"SueOrSettle$Sides", "duelMix", "()I"⟩, 15), (⟨"SueOrSettle$Sides", "lineToStrike", "(III)I"⟩, 15)]
theorem lw_r3 : ∀ q ∈ lw_privs_3, lw_okq q := List.forall_mem_cons.mpr ⟨lw_p32, List.forall_mem_cons.mpr ⟨lw_p33, List.forall_mem_cons.mpr ⟨lw_p34, List.forall_mem_cons.mpr ⟨lw_p35, List.forall_mem_cons.mpr ⟨lw_p36, List.forall_mem_cons.mpr ⟨lw_p37, List.forall_mem_cons.mpr ⟨lw_p38, List.forall_mem_cons.mpr ⟨lw_p39, List.forall_mem_cons.mpr ⟨lw_p40, List.forall_mem_cons.mpr ⟨lw_p41, List.forall_mem_cons.mpr ⟨lw_p42, List.forall_mem_cons.mpr ⟨lw_p43, List.forall_mem_cons.mpr ⟨lw_p44, List.forall_mem_cons.mpr ⟨lw_p45, List.forall_mem_cons.mpr ⟨lw_p46, List.forall_mem_cons.mpr ⟨lw_p47, fun _ h => absurd h List.not_mem_nil⟩⟩⟩⟩⟩⟩⟩⟩⟩⟩⟩⟩⟩⟩⟩⟩
theorem lw_p48 : lw_okq (⟨"SueOrSettle$Sides", "beats", "(IIII)Z"⟩, 15) := ⟨⟨by decide +kernel, by decide +kernel⟩, List.mem_of_getElem? (i := 175) (by decide +kernel), List.mem_of_getElem? (i := 1088) (by decide +kernel), List.mem_of_getElem? (i := 1089) (by decide +kernel)⟩
theorem lw_p49 : lw_okq (⟨"SueOrSettle$Sides", "isMade", "(I)Z"⟩, 15) := ⟨⟨by decide +kernel, by decide +kernel⟩, List.mem_of_getElem? (i := 175) (by decide +kernel), List.mem_of_getElem? (i := 1116) (by decide +kernel), List.mem_of_getElem? (i := 1117) (by decide +kernel)⟩
theorem lw_p50 : lw_okq (⟨"SueOrSettle$Sides", "madeBy", "(II)I"⟩, 15) := ⟨⟨by decide +kernel, by decide +kernel⟩, List.mem_of_getElem? (i := 175) (by decide +kernel), List.mem_of_getElem? (i := 1120) (by decide +kernel), List.mem_of_getElem? (i := 1121) (by decide +kernel)⟩
theorem lw_p51 : lw_okq (⟨"SueOrSettle$Sides", "takenOf", "(II)I"⟩, 15) := ⟨⟨by decide +kernel, by decide +kernel⟩, List.mem_of_getElem? (i := 175) (by decide +kernel), List.mem_of_getElem? (i := 1124) (by decide +kernel), List.mem_of_getElem? (i := 1125) (by decide +kernel)⟩
theorem lw_p52 : lw_okq (⟨"SueOrSettle$Sides", "leastWin", "()I"⟩, 15) := ⟨⟨by decide +kernel, by decide +kernel⟩, List.mem_of_getElem? (i := 175) (by decide +kernel), List.mem_of_getElem? (i := 1128) (by decide +kernel), List.mem_of_getElem? (i := 1129) (by decide +kernel)⟩
theorem lw_p53 : lw_okq (⟨"SueOrSettle$Sides", "doAllKeepTo", "(II)Z"⟩, 15) := ⟨⟨by decide +kernel, by decide +kernel⟩, List.mem_of_getElem? (i := 175) (by decide +kernel), List.mem_of_getElem? (i := 1132) (by decide +kernel), List.mem_of_getElem? (i := 1133) (by decide +kernel)⟩
theorem lw_p54 : lw_okq (⟨"SueOrSettle$Sides", "gained", "(III)I"⟩, 15) := ⟨⟨by decide +kernel, by decide +kernel⟩, List.mem_of_getElem? (i := 175) (by decide +kernel), List.mem_of_getElem? (i := 1136) (by decide +kernel), List.mem_of_getElem? (i := 1137) (by decide +kernel)⟩
theorem lw_p55 : lw_okq (⟨"SueOrSettle", "daysFrom", "(III)I"⟩, 17) := ⟨⟨by decide +kernel, by decide +kernel⟩, List.mem_of_getElem? (i := 18) (by decide +kernel), List.mem_of_getElem? (i := 1197) (by decide +kernel), List.mem_of_getElem? (i := 1198) (by decide +kernel)⟩
theorem lw_p56 : lw_okq (⟨"SueOrSettle", "refusalOfElement", "(II)I"⟩, 17) := ⟨⟨by decide +kernel, by decide +kernel⟩, List.mem_of_getElem? (i := 18) (by decide +kernel), List.mem_of_getElem? (i := 1345) (by decide +kernel), List.mem_of_getElem? (i := 1346) (by decide +kernel)⟩
theorem lw_p57 : lw_okq (⟨"SueOrSettleModel", "isThing", "(I)Z"⟩, 66) := ⟨⟨by decide +kernel, by decide +kernel⟩, List.mem_of_getElem? (i := 1391) (by decide +kernel), List.mem_of_getElem? (i := 1606) (by decide +kernel), List.mem_of_getElem? (i := 1607) (by decide +kernel)⟩
theorem lw_p58 : lw_okq (⟨"SueOrSettleModel", "isWeight", "(III)Z"⟩, 66) := ⟨⟨by decide +kernel, by decide +kernel⟩, List.mem_of_getElem? (i := 1391) (by decide +kernel), List.mem_of_getElem? (i := 1614) (by decide +kernel), List.mem_of_getElem? (i := 1615) (by decide +kernel)⟩
theorem lw_p59 : lw_okq (⟨"SueOrSettleModel", "rowsOf", "(I)I"⟩, 66) := ⟨⟨by decide +kernel, by decide +kernel⟩, List.mem_of_getElem? (i := 1391) (by decide +kernel), List.mem_of_getElem? (i := 1618) (by decide +kernel), List.mem_of_getElem? (i := 1619) (by decide +kernel)⟩
theorem lw_p60 : lw_okq (⟨"SueOrSettleModel", "note", "(IIII)V"⟩, 66) := ⟨⟨by decide +kernel, by decide +kernel⟩, List.mem_of_getElem? (i := 1391) (by decide +kernel), List.mem_of_getElem? (i := 1622) (by decide +kernel), List.mem_of_getElem? (i := 1623) (by decide +kernel)⟩
theorem lw_p61 : lw_okq (⟨"SueOrSettleModel", "bottomNow", "()J"⟩, 66) := ⟨⟨by decide +kernel, by decide +kernel⟩, List.mem_of_getElem? (i := 1391) (by decide +kernel), List.mem_of_getElem? (i := 1630) (by decide +kernel), List.mem_of_getElem? (i := 1631) (by decide +kernel)⟩
theorem lw_p62 : lw_okq (⟨"SueOrSettleModel", "bottomOf", "(I)J"⟩, 66) := ⟨⟨by decide +kernel, by decide +kernel⟩, List.mem_of_getElem? (i := 1391) (by decide +kernel), List.mem_of_getElem? (i := 1634) (by decide +kernel), List.mem_of_getElem? (i := 1635) (by decide +kernel)⟩
theorem lw_p63 : lw_okq (⟨"SueOrSettleModel", "sumOf", "(II)I"⟩, 66) := ⟨⟨by decide +kernel, by decide +kernel⟩, List.mem_of_getElem? (i := 1391) (by decide +kernel), List.mem_of_getElem? (i := 1638) (by decide +kernel), List.mem_of_getElem? (i := 1639) (by decide +kernel)⟩
def lw_privs_4 : List (MethodName × Nat) := [(⟨"SueOrSettle$Sides", "beats", "(IIII)Z"⟩, 15), (⟨"SueOrSettle$Sides", "isMade", "(I)Z"⟩, 15), (⟨"SueOrSettle$Sides", "madeBy", "(II)I"⟩, 15), (⟨"SueOrSettle$Sides", "takenOf", "(II)I"⟩, 15), (⟨"SueOrSettle$Sides", "leastWin", "()I"⟩, 15), (⟨"SueOrSettle$Sides", "doAllKeepTo", "(II)Z"⟩, 15), (⟨"SueOrSettle$Sides", "gained", "(III)I"⟩, 15), (⟨"SueOrSettle", "daysFrom", "(III)I"⟩, 17), (⟨"SueOrSettle", "refusalOfElement", "(II)I"⟩, 17), (⟨"SueOrSettleModel", "isThing", "(I)Z"⟩, 66), (⟨"SueOrSettleModel", "isWeight", "(III)Z"⟩, 66), (⟨"SueOrSettleModel", "rowsOf", "(I)I"⟩, 66), (⟨"SueOrSettleModel", "note", "(IIII)V"⟩, 66), (⟨"SueOrSettleModel", "bottomNow", "()J"⟩, 66), (⟨"SueOrSettleModel", "bottomOf", "(I)J"⟩, 66), (⟨"SueOrSettleModel", "sumOf", "(II)I"⟩, 66)]
theorem lw_r4 : ∀ q ∈ lw_privs_4, lw_okq q := List.forall_mem_cons.mpr ⟨lw_p48, List.forall_mem_cons.mpr ⟨lw_p49, List.forall_mem_cons.mpr ⟨lw_p50, List.forall_mem_cons.mpr ⟨lw_p51, List.forall_mem_cons.mpr ⟨lw_p52, List.forall_mem_cons.mpr ⟨lw_p53, List.forall_mem_cons.mpr ⟨lw_p54, List.forall_mem_cons.mpr ⟨lw_p55, List.forall_mem_cons.mpr ⟨lw_p56, List.forall_mem_cons.mpr ⟨lw_p57, List.forall_mem_cons.mpr ⟨lw_p58, List.forall_mem_cons.mpr ⟨lw_p59, List.forall_mem_cons.mpr ⟨lw_p60, List.forall_mem_cons.mpr ⟨lw_p61, List.forall_mem_cons.mpr ⟨lw_p62, List.forall_mem_cons.mpr ⟨lw_p63, fun _ h => absurd h List.not_mem_nil⟩⟩⟩⟩⟩⟩⟩⟩⟩⟩⟩⟩⟩⟩⟩⟩
theorem lw_p64 : lw_okq (⟨"SueOrSettleModel", "findStates", "()Z"⟩, 66) := ⟨⟨by decide +kernel, by decide +kernel⟩, List.mem_of_getElem? (i := 1391) (by decide +kernel), List.mem_of_getElem? (i := 1652) (by decide +kernel), List.mem_of_getElem? (i := 1653) (by decide +kernel)⟩
theorem lw_p65 : lw_okq (⟨"SueOrSettleModel", "numberOf", "(I)J"⟩, 66) := ⟨⟨by decide +kernel, by decide +kernel⟩, List.mem_of_getElem? (i := 1391) (by decide +kernel), List.mem_of_getElem? (i := 1656) (by decide +kernel), List.mem_of_getElem? (i := 1657) (by decide +kernel)⟩
theorem lw_p66 : lw_okq (⟨"SueOrSettleModel", "areWays", "(I)Z"⟩, 66) := ⟨⟨by decide +kernel, by decide +kernel⟩, List.mem_of_getElem? (i := 1391) (by decide +kernel), List.mem_of_getElem? (i := 1664) (by decide +kernel), List.mem_of_getElem? (i := 1665) (by decide +kernel)⟩
theorem lw_p67 : lw_okq (⟨"SueOrSettleModel", "agrees", "(II)Z"⟩, 66) := ⟨⟨by decide +kernel, by decide +kernel⟩, List.mem_of_getElem? (i := 1391) (by decide +kernel), List.mem_of_getElem? (i := 1668) (by decide +kernel), List.mem_of_getElem? (i := 1669) (by decide +kernel)⟩
theorem lw_p68 : lw_okq (⟨"SueOrSettleModel", "readAll", "()I"⟩, 66) := ⟨⟨by decide +kernel, by decide +kernel⟩, List.mem_of_getElem? (i := 1391) (by decide +kernel), List.mem_of_getElem? (i := 1683) (by decide +kernel), List.mem_of_getElem? (i := 1684) (by decide +kernel)⟩
theorem lw_p69 : lw_okq (⟨"SueOrSettleModel", "byteAt", "(I)I"⟩, 66) := ⟨⟨by decide +kernel, by decide +kernel⟩, List.mem_of_getElem? (i := 1391) (by decide +kernel), List.mem_of_getElem? (i := 1687) (by decide +kernel), List.mem_of_getElem? (i := 1688) (by decide +kernel)⟩
theorem lw_p70 : lw_okq (⟨"SueOrSettleModel", "wrong", "(I)I"⟩, 66) := ⟨⟨by decide +kernel, by decide +kernel⟩, List.mem_of_getElem? (i := 1391) (by decide +kernel), List.mem_of_getElem? (i := 1691) (by decide +kernel), List.mem_of_getElem? (i := 1692) (by decide +kernel)⟩
theorem lw_p71 : lw_okq (⟨"SueOrSettleModel", "readNode", "(IIIZ)I"⟩, 66) := ⟨⟨by decide +kernel, by decide +kernel⟩, List.mem_of_getElem? (i := 1391) (by decide +kernel), List.mem_of_getElem? (i := 1695) (by decide +kernel), List.mem_of_getElem? (i := 1696) (by decide +kernel)⟩
theorem lw_p72 : lw_okq (⟨"SueOrSettleModel", "readChoice", "(IIIZ)I"⟩, 66) := ⟨⟨by decide +kernel, by decide +kernel⟩, List.mem_of_getElem? (i := 1391) (by decide +kernel), List.mem_of_getElem? (i := 1699) (by decide +kernel), List.mem_of_getElem? (i := 1700) (by decide +kernel)⟩
theorem lw_p73 : lw_okq (⟨"SueOrSettleModel", "newNode", "(ZII)I"⟩, 66) := ⟨⟨by decide +kernel, by decide +kernel⟩, List.mem_of_getElem? (i := 1391) (by decide +kernel), List.mem_of_getElem? (i := 1703) (by decide +kernel), List.mem_of_getElem? (i := 1704) (by decide +kernel)⟩
theorem lw_p74 : lw_okq (⟨"SueOrSettleModel", "isDigitAt", "(I)Z"⟩, 66) := ⟨⟨by decide +kernel, by decide +kernel⟩, List.mem_of_getElem? (i := 1391) (by decide +kernel), List.mem_of_getElem? (i := 1707) (by decide +kernel), List.mem_of_getElem? (i := 1708) (by decide +kernel)⟩
theorem lw_p75 : lw_okq (⟨"SueOrSettleModel", "lead", "(III)V"⟩, 66) := ⟨⟨by decide +kernel, by decide +kernel⟩, List.mem_of_getElem? (i := 1391) (by decide +kernel), List.mem_of_getElem? (i := 1711) (by decide +kernel), List.mem_of_getElem? (i := 1712) (by decide +kernel)⟩
theorem lw_p76 : lw_okq (⟨"SueOrSettleModel", "readTurns", "(IIIZ)I"⟩, 66) := ⟨⟨by decide +kernel, by decide +kernel⟩, List.mem_of_getElem? (i := 1391) (by decide +kernel), List.mem_of_getElem? (i := 1715) (by decide +kernel), List.mem_of_getElem? (i := 1716) (by decide +kernel)⟩
theorem lw_p77 : lw_okq (⟨"SueOrSettleModel", "readEnd", "(IZ)I"⟩, 66) := ⟨⟨by decide +kernel, by decide +kernel⟩, List.mem_of_getElem? (i := 1391) (by decide +kernel), List.mem_of_getElem? (i := 1719) (by decide +kernel), List.mem_of_getElem? (i := 1720) (by decide +kernel)⟩
theorem lw_p78 : lw_okq (⟨"SueOrSettleModel", "isQuarrel", "(I)Z"⟩, 66) := ⟨⟨by decide +kernel, by decide +kernel⟩, List.mem_of_getElem? (i := 1391) (by decide +kernel), List.mem_of_getElem? (i := 1727) (by decide +kernel), List.mem_of_getElem? (i := 1728) (by decide +kernel)⟩
theorem lw_p79 : lw_okq (⟨"SueOrSettleModel", "isNode", "(II)Z"⟩, 66) := ⟨⟨by decide +kernel, by decide +kernel⟩, List.mem_of_getElem? (i := 1391) (by decide +kernel), List.mem_of_getElem? (i := 1732) (by decide +kernel), List.mem_of_getElem? (i := 1733) (by decide +kernel)⟩
def lw_privs_5 : List (MethodName × Nat) := [(⟨"SueOrSettleModel", "findStates", "()Z"⟩, 66), (⟨"SueOrSettleModel", "numberOf", "(I)J"⟩, 66), (⟨"SueOrSettleModel", "areWays", "(I)Z"⟩, 66), (⟨"SueOrSettleModel", "agrees", "(II)Z"⟩, 66), (⟨"SueOrSettleModel", "readAll", "()I"⟩, 66), (⟨"SueOrSettleModel", "byteAt", "(I)I"⟩, 66), (⟨"SueOrSettleModel", "wrong", "(I)I"⟩, 66), (⟨"SueOrSettleModel", "readNode", "(IIIZ)I"⟩, 66), (⟨"SueOrSettleModel", "readChoice", "(IIIZ)I"⟩, 66), (⟨"SueOrSettleModel", "newNode", "(ZII)I"⟩, 66), (⟨"SueOrSettleModel", "isDigitAt", "(I)Z"⟩, 66), (⟨"SueOrSettleModel", "lead", "(III)V"⟩, 66), (⟨"SueOrSettleModel", "readTurns", "(IIIZ)I"⟩, 66), (⟨"SueOrSettleModel", "readEnd", "(IZ)I"⟩, 66), (⟨"SueOrSettleModel", "isQuarrel", "(I)Z"⟩, 66), (⟨"SueOrSettleModel", "isNode", "(II)Z"⟩, 66)]
theorem lw_r5 : ∀ q ∈ lw_privs_5, lw_okq q := List.forall_mem_cons.mpr ⟨lw_p64, List.forall_mem_cons.mpr ⟨lw_p65, List.forall_mem_cons.mpr ⟨lw_p66, List.forall_mem_cons.mpr ⟨lw_p67, List.forall_mem_cons.mpr ⟨lw_p68, List.forall_mem_cons.mpr ⟨lw_p69, List.forall_mem_cons.mpr ⟨lw_p70, List.forall_mem_cons.mpr ⟨lw_p71, List.forall_mem_cons.mpr ⟨lw_p72, List.forall_mem_cons.mpr ⟨lw_p73, List.forall_mem_cons.mpr ⟨lw_p74, List.forall_mem_cons.mpr ⟨lw_p75, List.forall_mem_cons.mpr ⟨lw_p76, List.forall_mem_cons.mpr ⟨lw_p77, List.forall_mem_cons.mpr ⟨lw_p78, List.forall_mem_cons.mpr ⟨lw_p79, fun _ h => absurd h List.not_mem_nil⟩⟩⟩⟩⟩⟩⟩⟩⟩⟩⟩⟩⟩⟩⟩⟩
theorem lw_p80 : lw_okq (⟨"SueOrSettleModel", "waysOf", "(I)I"⟩, 66) := ⟨⟨by decide +kernel, by decide +kernel⟩, List.mem_of_getElem? (i := 1391) (by decide +kernel), List.mem_of_getElem? (i := 1736) (by decide +kernel), List.mem_of_getElem? (i := 1737) (by decide +kernel)⟩
theorem lw_p81 : lw_okq (⟨"SueOrSettleModel", "isPlace", "(III)Z"⟩, 66) := ⟨⟨by decide +kernel, by decide +kernel⟩, List.mem_of_getElem? (i := 1391) (by decide +kernel), List.mem_of_getElem? (i := 1744) (by decide +kernel), List.mem_of_getElem? (i := 1745) (by decide +kernel)⟩
theorem lw_p82 : lw_okq (⟨"SueOrSettleModel", "isChoice", "(II)Z"⟩, 66) := ⟨⟨by decide +kernel, by decide +kernel⟩, List.mem_of_getElem? (i := 1391) (by decide +kernel), List.mem_of_getElem? (i := 1748) (by decide +kernel), List.mem_of_getElem? (i := 1749) (by decide +kernel)⟩
theorem lw_p83 : lw_okq (⟨"SueOrSettleModel", "set", "(III)V"⟩, 66) := ⟨⟨by decide +kernel, by decide +kernel⟩, List.mem_of_getElem? (i := 1391) (by decide +kernel), List.mem_of_getElem? (i := 1752) (by decide +kernel), List.mem_of_getElem? (i := 1753) (by decide +kernel)⟩
theorem lw_p84 : lw_okq (⟨"SueOrSettleModel", "isFeeling", "(I)Z"⟩, 66) := ⟨⟨by decide +kernel, by decide +kernel⟩, List.mem_of_getElem? (i := 1391) (by decide +kernel), List.mem_of_getElem? (i := 1776) (by decide +kernel), List.mem_of_getElem? (i := 1777) (by decide +kernel)⟩
theorem lw_p85 : lw_okq (⟨"SueOrSettleModel", "countsBy", "(III)I"⟩, 66) := ⟨⟨by decide +kernel, by decide +kernel⟩, List.mem_of_getElem? (i := 1391) (by decide +kernel), List.mem_of_getElem? (i := 1780) (by decide +kernel), List.mem_of_getElem? (i := 1781) (by decide +kernel)⟩
theorem lw_p86 : lw_okq (⟨"SueOrSettleModel", "feltOf", "(I)I"⟩, 66) := ⟨⟨by decide +kernel, by decide +kernel⟩, List.mem_of_getElem? (i := 1391) (by decide +kernel), List.mem_of_getElem? (i := 1784) (by decide +kernel), List.mem_of_getElem? (i := 1785) (by decide +kernel)⟩
theorem lw_p87 : lw_okq (⟨"SueOrSettleModel", "coinBy", "(I)I"⟩, 66) := ⟨⟨by decide +kernel, by decide +kernel⟩, List.mem_of_getElem? (i := 1391) (by decide +kernel), List.mem_of_getElem? (i := 1788) (by decide +kernel), List.mem_of_getElem? (i := 1789) (by decide +kernel)⟩
theorem lw_p88 : lw_okq (⟨"SueOrSettleModel", "wholeWorth", "(IIIZ)J"⟩, 66) := ⟨⟨by decide +kernel, by decide +kernel⟩, List.mem_of_getElem? (i := 1391) (by decide +kernel), List.mem_of_getElem? (i := 1797) (by decide +kernel), List.mem_of_getElem? (i := 1798) (by decide +kernel)⟩
theorem lw_p89 : lw_okq (⟨"SueOrSettleModel", "begin", "(IIIZ)V"⟩, 66) := ⟨⟨by decide +kernel, by decide +kernel⟩, List.mem_of_getElem? (i := 1391) (by decide +kernel), List.mem_of_getElem? (i := 1801) (by decide +kernel), List.mem_of_getElem? (i := 1802) (by decide +kernel)⟩
theorem lw_p90 : lw_okq (⟨"SueOrSettleModel", "worthOf", "(II)J"⟩, 66) := ⟨⟨by decide +kernel, by decide +kernel⟩, List.mem_of_getElem? (i := 1391) (by decide +kernel), List.mem_of_getElem? (i := 1805) (by decide +kernel), List.mem_of_getElem? (i := 1806) (by decide +kernel)⟩
theorem lw_p91 : lw_okq (⟨"SueOrSettleModel", "knownNumber", "()J"⟩, 66) := ⟨⟨by decide +kernel, by decide +kernel⟩, List.mem_of_getElem? (i := 1391) (by decide +kernel), List.mem_of_getElem? (i := 1809) (by decide +kernel), List.mem_of_getElem? (i := 1810) (by decide +kernel)⟩
theorem lw_p92 : lw_okq (⟨"SueOrSettleModel", "isKnown", "(I)Z"⟩, 66) := ⟨⟨by decide +kernel, by decide +kernel⟩, List.mem_of_getElem? (i := 1391) (by decide +kernel), List.mem_of_getElem? (i := 1813) (by decide +kernel), List.mem_of_getElem? (i := 1814) (by decide +kernel)⟩
theorem lw_p93 : lw_okq (⟨"SueOrSettleModel", "turnsWorth", "(II)J"⟩, 66) := ⟨⟨by decide +kernel, by decide +kernel⟩, List.mem_of_getElem? (i := 1391) (by decide +kernel), List.mem_of_getElem? (i := 1817) (by decide +kernel), List.mem_of_getElem? (i := 1818) (by decide +kernel)⟩
theorem lw_p94 : lw_okq (⟨"SueOrSettleModel", "regrets", "()J"⟩, 66) := ⟨⟨by decide +kernel, by decide +kernel⟩, List.mem_of_getElem? (i := 1391) (by decide +kernel), List.mem_of_getElem? (i := 1821) (by decide +kernel), List.mem_of_getElem? (i := 1822) (by decide +kernel)⟩
theorem lw_p95 : lw_okq (⟨"SueOrSettleModel", "valueIn", "(III)I"⟩, 66) := ⟨⟨by decide +kernel, by decide +kernel⟩, List.mem_of_getElem? (i := 1391) (by decide +kernel), List.mem_of_getElem? (i := 1825) (by decide +kernel), List.mem_of_getElem? (i := 1826) (by decide +kernel)⟩
def lw_privs_6 : List (MethodName × Nat) := [(⟨"SueOrSettleModel", "waysOf", "(I)I"⟩, 66), (⟨"SueOrSettleModel", "isPlace", "(III)Z"⟩, 66), (⟨"SueOrSettleModel", "isChoice", "(II)Z"⟩, 66), (⟨"SueOrSettleModel", "set", "(III)V"⟩, 66), (⟨"SueOrSettleModel", "isFeeling", "(I)Z"⟩, 66), (⟨"SueOrSettleModel", "countsBy", "(III)I"⟩, 66), (⟨"SueOrSettleModel", "feltOf", "(I)I"⟩, 66), (⟨"SueOrSettleModel", "coinBy", "(I)I"⟩, 66), (⟨"SueOrSettleModel", "wholeWorth", "(IIIZ)J"⟩, 66), (⟨"SueOrSettleModel", "begin", "(IIIZ)V"⟩, 66), (⟨"SueOrSettleModel", "worthOf", "(II)J"⟩, 66), (⟨"SueOrSettleModel", "knownNumber", "()J"⟩, 66), (⟨"SueOrSettleModel", "isKnown", "(I)Z"⟩, 66), (⟨"SueOrSettleModel", "turnsWorth", "(II)J"⟩, 66), (⟨"SueOrSettleModel", "regrets", "()J"⟩, 66), (⟨"SueOrSettleModel", "valueIn", "(III)I"⟩, 66)]
theorem lw_r6 : ∀ q ∈ lw_privs_6, lw_okq q := List.forall_mem_cons.mpr ⟨lw_p80, List.forall_mem_cons.mpr ⟨lw_p81, List.forall_mem_cons.mpr ⟨lw_p82, List.forall_mem_cons.mpr ⟨lw_p83, List.forall_mem_cons.mpr ⟨lw_p84, List.forall_mem_cons.mpr ⟨lw_p85, List.forall_mem_cons.mpr ⟨lw_p86, List.forall_mem_cons.mpr ⟨lw_p87, List.forall_mem_cons.mpr ⟨lw_p88, List.forall_mem_cons.mpr ⟨lw_p89, List.forall_mem_cons.mpr ⟨lw_p90, List.forall_mem_cons.mpr ⟨lw_p91, List.forall_mem_cons.mpr ⟨lw_p92, List.forall_mem_cons.mpr ⟨lw_p93, List.forall_mem_cons.mpr ⟨lw_p94, List.forall_mem_cons.mpr ⟨lw_p95, fun _ h => absurd h List.not_mem_nil⟩⟩⟩⟩⟩⟩⟩⟩⟩⟩⟩⟩⟩⟩⟩⟩
theorem lw_p96 : lw_okq (⟨"SueOrSettleModel", "bottomFor", "(I)J"⟩, 66) := ⟨⟨by decide +kernel, by decide +kernel⟩, List.mem_of_getElem? (i := 1391) (by decide +kernel), List.mem_of_getElem? (i := 1829) (by decide +kernel), List.mem_of_getElem? (i := 1830) (by decide +kernel)⟩
theorem lw_p97 : lw_okq (⟨"SueOrSettleModel", "planBest", "(I)V"⟩, 66) := ⟨⟨by decide +kernel, by decide +kernel⟩, List.mem_of_getElem? (i := 1391) (by decide +kernel), List.mem_of_getElem? (i := 1834) (by decide +kernel), List.mem_of_getElem? (i := 1835) (by decide +kernel)⟩
theorem lw_p98 : lw_okq (⟨"SueOrSettleModel", "goesTo", "(II)Z"⟩, 66) := ⟨⟨by decide +kernel, by decide +kernel⟩, List.mem_of_getElem? (i := 1391) (by decide +kernel), List.mem_of_getElem? (i := 1854) (by decide +kernel), List.mem_of_getElem? (i := 1855) (by decide +kernel)⟩
theorem lw_p99 : lw_okq (⟨"SueOrSettleModel", "tellOn", "(II)V"⟩, 66) := ⟨⟨by decide +kernel, by decide +kernel⟩, List.mem_of_getElem? (i := 1391) (by decide +kernel), List.mem_of_getElem? (i := 1862) (by decide +kernel), List.mem_of_getElem? (i := 1863) (by decide +kernel)⟩
theorem lw_p100 : lw_okq (⟨"SueOrSettleModel", "knowingAll", "(I)J"⟩, 66) := ⟨⟨by decide +kernel, by decide +kernel⟩, List.mem_of_getElem? (i := 1391) (by decide +kernel), List.mem_of_getElem? (i := 1870) (by decide +kernel), List.mem_of_getElem? (i := 1871) (by decide +kernel)⟩
theorem lw_p101 : lw_okq (⟨"SueOrSettleModel", "askWorth", "(II)J"⟩, 66) := ⟨⟨by decide +kernel, by decide +kernel⟩, List.mem_of_getElem? (i := 1391) (by decide +kernel), List.mem_of_getElem? (i := 1874) (by decide +kernel), List.mem_of_getElem? (i := 1875) (by decide +kernel)⟩
theorem lw_p102 : lw_okq (⟨"SueOrSettleModel", "bestKnowing", "(III)J"⟩, 66) := ⟨⟨by decide +kernel, by decide +kernel⟩, List.mem_of_getElem? (i := 1391) (by decide +kernel), List.mem_of_getElem? (i := 1878) (by decide +kernel), List.mem_of_getElem? (i := 1879) (by decide +kernel)⟩
theorem lw_p103 : lw_okq (⟨"SueOrSettleModel", "edgeFor", "(IIII)I"⟩, 66) := ⟨⟨by decide +kernel, by decide +kernel⟩, List.mem_of_getElem? (i := 1391) (by decide +kernel), List.mem_of_getElem? (i := 1894) (by decide +kernel), List.mem_of_getElem? (i := 1895) (by decide +kernel)⟩
theorem lw_p104 : lw_okq (⟨"SueOrSettleModel", "firstWay", "(I)I"⟩, 66) := ⟨⟨by decide +kernel, by decide +kernel⟩, List.mem_of_getElem? (i := 1391) (by decide +kernel), List.mem_of_getElem? (i := 1898) (by decide +kernel), List.mem_of_getElem? (i := 1899) (by decide +kernel)⟩
theorem lw_p105 : lw_okq (⟨"SueOrSettleModel", "firstChoice", "(I)I"⟩, 66) := ⟨⟨by decide +kernel, by decide +kernel⟩, List.mem_of_getElem? (i := 1391) (by decide +kernel), List.mem_of_getElem? (i := 1902) (by decide +kernel), List.mem_of_getElem? (i := 1903) (by decide +kernel)⟩
theorem lw_p106 : lw_okq (⟨"SueOrSettleModel", "valueAt", "(II)I"⟩, 66) := ⟨⟨by decide +kernel, by decide +kernel⟩, List.mem_of_getElem? (i := 1391) (by decide +kernel), List.mem_of_getElem? (i := 1906) (by decide +kernel), List.mem_of_getElem? (i := 1907) (by decide +kernel)⟩
theorem lw_p107 : lw_okq (⟨"SueOrSettleModel", "isDoubt", "(III)Z"⟩, 66) := ⟨⟨by decide +kernel, by decide +kernel⟩, List.mem_of_getElem? (i := 1391) (by decide +kernel), List.mem_of_getElem? (i := 1922) (by decide +kernel), List.mem_of_getElem? (i := 1923) (by decide +kernel)⟩
theorem lw_p108 : lw_okq (⟨"SueOrSettleModel", "canDoubt", "(III)Z"⟩, 66) := ⟨⟨by decide +kernel, by decide +kernel⟩, List.mem_of_getElem? (i := 1391) (by decide +kernel), List.mem_of_getElem? (i := 1926) (by decide +kernel), List.mem_of_getElem? (i := 1927) (by decide +kernel)⟩
theorem lw_p109 : lw_okq (⟨"SueOrSettleModel", "holdOf", "(IIII)I"⟩, 66) := ⟨⟨by decide +kernel, by decide +kernel⟩, List.mem_of_getElem? (i := 1391) (by decide +kernel), List.mem_of_getElem? (i := 1930) (by decide +kernel), List.mem_of_getElem? (i := 1931) (by decide +kernel)⟩
theorem lw_p110 : lw_okq (⟨"SueOrSettleModel", "steadyOf", "(IIII)I"⟩, 66) := ⟨⟨by decide +kernel, by decide +kernel⟩, List.mem_of_getElem? (i := 1391) (by decide +kernel), List.mem_of_getElem? (i := 1934) (by decide +kernel), List.mem_of_getElem? (i := 1935) (by decide +kernel)⟩
theorem lw_p111 : lw_okq (⟨"SueOrSettleModel", "isSamePlan", "(III)Z"⟩, 66) := ⟨⟨by decide +kernel, by decide +kernel⟩, List.mem_of_getElem? (i := 1391) (by decide +kernel), List.mem_of_getElem? (i := 1938) (by decide +kernel), List.mem_of_getElem? (i := 1939) (by decide +kernel)⟩
def lw_privs_7 : List (MethodName × Nat) := [(⟨"SueOrSettleModel", "bottomFor", "(I)J"⟩, 66), (⟨"SueOrSettleModel", "planBest", "(I)V"⟩, 66), (⟨"SueOrSettleModel", "goesTo", "(II)Z"⟩, 66), (⟨"SueOrSettleModel", "tellOn", "(II)V"⟩, 66), (⟨"SueOrSettleModel", "knowingAll", "(I)J"⟩, 66), (⟨"SueOrSettleModel", "askWorth", "(II)J"⟩, 66), (⟨"SueOrSettleModel", "bestKnowing", "(III)J"⟩, 66), (⟨"SueOrSettleModel", "edgeFor", "(IIII)I"⟩, 66), (⟨"SueOrSettleModel", "firstWay", "(I)I"⟩, 66), (⟨"SueOrSettleModel", "firstChoice", "(I)I"⟩, 66), (⟨"SueOrSettleModel", "valueAt", "(II)I"⟩, 66), (⟨"SueOrSettleModel", "isDoubt", "(III)Z"⟩, 66), (⟨"SueOrSettleModel", "canDoubt", "(III)Z"⟩, 66), (⟨"SueOrSettleModel", "holdOf", "(IIII)I"⟩, 66), (⟨"SueOrSettleModel", "steadyOf", "(IIII)I"⟩, 66), (⟨"SueOrSettleModel", "isSamePlan", "(III)Z"⟩, 66)]
theorem lw_r7 : ∀ q ∈ lw_privs_7, lw_okq q := List.forall_mem_cons.mpr ⟨lw_p96, List.forall_mem_cons.mpr ⟨lw_p97, List.forall_mem_cons.mpr ⟨lw_p98, List.forall_mem_cons.mpr ⟨lw_p99, List.forall_mem_cons.mpr ⟨lw_p100, List.forall_mem_cons.mpr ⟨lw_p101, List.forall_mem_cons.mpr ⟨lw_p102, List.forall_mem_cons.mpr ⟨lw_p103, List.forall_mem_cons.mpr ⟨lw_p104, List.forall_mem_cons.mpr ⟨lw_p105, List.forall_mem_cons.mpr ⟨lw_p106, List.forall_mem_cons.mpr ⟨lw_p107, List.forall_mem_cons.mpr ⟨lw_p108, List.forall_mem_cons.mpr ⟨lw_p109, List.forall_mem_cons.mpr ⟨lw_p110, List.forall_mem_cons.mpr ⟨lw_p111, fun _ h => absurd h List.not_mem_nil⟩⟩⟩⟩⟩⟩⟩⟩⟩⟩⟩⟩⟩⟩⟩⟩
theorem lw_p112 : lw_okq (⟨"SueOrSettleModel", "isSure", "(II)Z"⟩, 66) := ⟨⟨by decide +kernel, by decide +kernel⟩, List.mem_of_getElem? (i := 1391) (by decide +kernel), List.mem_of_getElem? (i := 1962) (by decide +kernel), List.mem_of_getElem? (i := 1963) (by decide +kernel)⟩
theorem lw_p113 : lw_okq (⟨"SueOrSettleModel", "isStruck", "(ZIII)Z"⟩, 66) := ⟨⟨by decide +kernel, by decide +kernel⟩, List.mem_of_getElem? (i := 1391) (by decide +kernel), List.mem_of_getElem? (i := 1980) (by decide +kernel), List.mem_of_getElem? (i := 1981) (by decide +kernel)⟩
theorem lw_p114 : lw_okq (⟨"SueOrSettleModel", "holdsFor", "(III)Z"⟩, 66) := ⟨⟨by decide +kernel, by decide +kernel⟩, List.mem_of_getElem? (i := 1391) (by decide +kernel), List.mem_of_getElem? (i := 1996) (by decide +kernel), List.mem_of_getElem? (i := 1997) (by decide +kernel)⟩
theorem lw_p115 : lw_okq (⟨"SueOrSettleModel", "getsBy", "(III)I"⟩, 66) := ⟨⟨by decide +kernel, by decide +kernel⟩, List.mem_of_getElem? (i := 1391) (by decide +kernel), List.mem_of_getElem? (i := 2000) (by decide +kernel), List.mem_of_getElem? (i := 2001) (by decide +kernel)⟩
theorem lw_p116 : lw_okq (⟨"SueOrSettleModel", "isToTake", "(III)Z"⟩, 66) := ⟨⟨by decide +kernel, by decide +kernel⟩, List.mem_of_getElem? (i := 1391) (by decide +kernel), List.mem_of_getElem? (i := 2004) (by decide +kernel), List.mem_of_getElem? (i := 2005) (by decide +kernel)⟩
theorem lw_p117 : lw_okq (⟨"SueOrSettleModel", "effortFor", "(II)I"⟩, 66) := ⟨⟨by decide +kernel, by decide +kernel⟩, List.mem_of_getElem? (i := 1391) (by decide +kernel), List.mem_of_getElem? (i := 2023) (by decide +kernel), List.mem_of_getElem? (i := 2024) (by decide +kernel)⟩
theorem lw_p118 : lw_okq (⟨"SueOrSettleModel", "pays", "(II)I"⟩, 66) := ⟨⟨by decide +kernel, by decide +kernel⟩, List.mem_of_getElem? (i := 1391) (by decide +kernel), List.mem_of_getElem? (i := 2058) (by decide +kernel), List.mem_of_getElem? (i := 2059) (by decide +kernel)⟩
theorem lw_p119 : lw_okq (⟨"SueOrSettleModel", "ran", "(I)V"⟩, 66) := ⟨⟨by decide +kernel, by decide +kernel⟩, List.mem_of_getElem? (i := 1391) (by decide +kernel), List.mem_of_getElem? (i := 2062) (by decide +kernel), List.mem_of_getElem? (i := 2063) (by decide +kernel)⟩
theorem lw_p120 : lw_okq (⟨"SueOrSettleModel", "partPays", "(II)I"⟩, 66) := ⟨⟨by decide +kernel, by decide +kernel⟩, List.mem_of_getElem? (i := 1391) (by decide +kernel), List.mem_of_getElem? (i := 2066) (by decide +kernel), List.mem_of_getElem? (i := 2067) (by decide +kernel)⟩
theorem lw_p121 : lw_okq (⟨"SueOrSettleModel", "plainPays", "(II)I"⟩, 66) := ⟨⟨by decide +kernel, by decide +kernel⟩, List.mem_of_getElem? (i := 1391) (by decide +kernel), List.mem_of_getElem? (i := 2070) (by decide +kernel), List.mem_of_getElem? (i := 2071) (by decide +kernel)⟩
theorem lw_p122 : lw_okq (⟨"SueOrSettleModel", "feels", "(II)I"⟩, 66) := ⟨⟨by decide +kernel, by decide +kernel⟩, List.mem_of_getElem? (i := 1391) (by decide +kernel), List.mem_of_getElem? (i := 2074) (by decide +kernel), List.mem_of_getElem? (i := 2075) (by decide +kernel)⟩
theorem lw_p123 : lw_okq (⟨"SueOrSettleModel", "feltFeels", "(II)I"⟩, 66) := ⟨⟨by decide +kernel, by decide +kernel⟩, List.mem_of_getElem? (i := 1391) (by decide +kernel), List.mem_of_getElem? (i := 2078) (by decide +kernel), List.mem_of_getElem? (i := 2079) (by decide +kernel)⟩
theorem lw_p124 : lw_okq (⟨"SueOrSettleModel", "plainFeels", "(II)I"⟩, 66) := ⟨⟨by decide +kernel, by decide +kernel⟩, List.mem_of_getElem? (i := 1391) (by decide +kernel), List.mem_of_getElem? (i := 2082) (by decide +kernel), List.mem_of_getElem? (i := 2083) (by decide +kernel)⟩
theorem lw_p125 : lw_okq (⟨"SueOrSettleModel", "fears", "(II)I"⟩, 66) := ⟨⟨by decide +kernel, by decide +kernel⟩, List.mem_of_getElem? (i := 1391) (by decide +kernel), List.mem_of_getElem? (i := 2086) (by decide +kernel), List.mem_of_getElem? (i := 2087) (by decide +kernel)⟩
theorem lw_p126 : lw_okq (⟨"SueOrSettleModel", "plainFears", "(II)I"⟩, 66) := ⟨⟨by decide +kernel, by decide +kernel⟩, List.mem_of_getElem? (i := 1391) (by decide +kernel), List.mem_of_getElem? (i := 2090) (by decide +kernel), List.mem_of_getElem? (i := 2091) (by decide +kernel)⟩
theorem lw_p127 : lw_okq (⟨"SueOrSettleModel", "tells", "(II)I"⟩, 66) := ⟨⟨by decide +kernel, by decide +kernel⟩, List.mem_of_getElem? (i := 1391) (by decide +kernel), List.mem_of_getElem? (i := 2094) (by decide +kernel), List.mem_of_getElem? (i := 2095) (by decide +kernel)⟩
def lw_privs_8 : List (MethodName × Nat) := [(⟨"SueOrSettleModel", "isSure", "(II)Z"⟩, 66), (⟨"SueOrSettleModel", "isStruck", "(ZIII)Z"⟩, 66), (⟨"SueOrSettleModel", "holdsFor", "(III)Z"⟩, 66), (⟨"SueOrSettleModel", "getsBy", "(III)I"⟩, 66), (⟨"SueOrSettleModel", "isToTake", "(III)Z"⟩, 66), (⟨"SueOrSettleModel", "effortFor", "(II)I"⟩, 66), (⟨"SueOrSettleModel", "pays", "(II)I"⟩, 66), (⟨"SueOrSettleModel", "ran", "(I)V"⟩, 66), (⟨"SueOrSettleModel", "partPays", "(II)I"⟩, 66), (⟨"SueOrSettleModel", "plainPays", "(II)I"⟩, 66), (⟨"SueOrSettleModel", "feels", "(II)I"⟩, 66), (⟨"SueOrSettleModel", "feltFeels", "(II)I"⟩, 66), (⟨"SueOrSettleModel", "plainFeels", "(II)I"⟩, 66), (⟨"SueOrSettleModel", "fears", "(II)I"⟩, 66), (⟨"SueOrSettleModel", "plainFears", "(II)I"⟩, 66), (⟨"SueOrSettleModel", "tells", "(II)I"⟩, 66)]
theorem lw_r8 : ∀ q ∈ lw_privs_8, lw_okq q := List.forall_mem_cons.mpr ⟨lw_p112, List.forall_mem_cons.mpr ⟨lw_p113, List.forall_mem_cons.mpr ⟨lw_p114, List.forall_mem_cons.mpr ⟨lw_p115, List.forall_mem_cons.mpr ⟨lw_p116, List.forall_mem_cons.mpr ⟨lw_p117, List.forall_mem_cons.mpr ⟨lw_p118, List.forall_mem_cons.mpr ⟨lw_p119, List.forall_mem_cons.mpr ⟨lw_p120, List.forall_mem_cons.mpr ⟨lw_p121, List.forall_mem_cons.mpr ⟨lw_p122, List.forall_mem_cons.mpr ⟨lw_p123, List.forall_mem_cons.mpr ⟨lw_p124, List.forall_mem_cons.mpr ⟨lw_p125, List.forall_mem_cons.mpr ⟨lw_p126, List.forall_mem_cons.mpr ⟨lw_p127, fun _ h => absurd h List.not_mem_nil⟩⟩⟩⟩⟩⟩⟩⟩⟩⟩⟩⟩⟩⟩⟩⟩
theorem lw_p128 : lw_okq (⟨"SueOrSettleModel", "plainTells", "(II)I"⟩, 66) := ⟨⟨by decide +kernel, by decide +kernel⟩, List.mem_of_getElem? (i := 1391) (by decide +kernel), List.mem_of_getElem? (i := 2098) (by decide +kernel), List.mem_of_getElem? (i := 2099) (by decide +kernel)⟩
theorem lw_p129 : lw_okq (⟨"SueOrSettleModel", "whyNoPlace", "(II)I"⟩, 66) := ⟨⟨by decide +kernel, by decide +kernel⟩, List.mem_of_getElem? (i := 1391) (by decide +kernel), List.mem_of_getElem? (i := 2122) (by decide +kernel), List.mem_of_getElem? (i := 2123) (by decide +kernel)⟩
def lw_privs_9 : List (MethodName × Nat) := [(⟨"SueOrSettleModel", "plainTells", "(II)I"⟩, 66), (⟨"SueOrSettleModel", "whyNoPlace", "(II)I"⟩, 66)]
theorem lw_r9 : ∀ q ∈ lw_privs_9, lw_okq q := List.forall_mem_cons.mpr ⟨lw_p128, List.forall_mem_cons.mpr ⟨lw_p129, fun _ h => absurd h List.not_mem_nil⟩⟩
def lw_privs : List (MethodName × Nat) := lw_privs_1 ++ (lw_privs_2 ++ (lw_privs_3 ++ (lw_privs_4 ++ (lw_privs_5 ++ (lw_privs_6 ++ (lw_privs_7 ++ (lw_privs_8 ++ (lw_privs_9))))))))
def lw_tbl : List Cond := k2_sels lw_privs ++ tables_1
theorem lw_privs_ok : ∀ q ∈ lw_privs, lw_okq q := by
  show ∀ q ∈ lw_privs_1 ++ (lw_privs_2 ++ (lw_privs_3 ++ (lw_privs_4 ++ (lw_privs_5 ++ (lw_privs_6 ++ (lw_privs_7 ++ (lw_privs_8 ++ (lw_privs_9)))))))), lw_okq q
  exact List.forall_mem_append.mpr ⟨lw_r1, List.forall_mem_append.mpr ⟨lw_r2, List.forall_mem_append.mpr ⟨lw_r3, List.forall_mem_append.mpr ⟨lw_r4, List.forall_mem_append.mpr ⟨lw_r5, List.forall_mem_append.mpr ⟨lw_r6, List.forall_mem_append.mpr ⟨lw_r7, List.forall_mem_append.mpr ⟨lw_r8, lw_r9⟩⟩⟩⟩⟩⟩⟩⟩

theorem goodIn_r {big : List Cond} (ws : List Cond) (ps : List Nat) (hp : ws = ps.filterMap (fun i => big[i]?)) (h : ws.all goodWord = true) : GoodIn big ws := by
  intro w hw
  have h1 := List.all_eq_true.mp h w hw
  rw [hp] at hw
  obtain ⟨i, -, hi⟩ := List.mem_filterMap.mp hw
  have hm : w ∈ big := by first | exact List.mem_of_getElem? hi | exact List.getElem?_mem hi
  exact ⟨hm, good_of_word h1⟩
theorem goodIn_app {big a b : List Cond} (ha : GoodIn big a) (hb : GoodIn big b) : GoodIn big (a ++ b) := fun w h => (List.mem_append.mp h).elim (ha w) (hb w)
theorem goodIn_ca {big a b : List Cond} {c : Cond} (ha : GoodIn big (c :: a)) (hb : GoodIn big b) : GoodIn big (c :: (a ++ b)) := fun w h => (List.mem_cons.mp h).elim (fun e => ha w (List.mem_cons.mpr (Or.inl e))) (fun h => (List.mem_append.mp h).elim (fun h => ha w (List.mem_cons.mpr (Or.inr h))) (hb w))
theorem goodIn_sub {big ws : List Cond} (hm : ∀ w ∈ ws, w ∈ big) (h : ws.all goodWord = true) : GoodIn big ws := fun w hw => ⟨hm w hw, good_of_word (List.all_eq_true.mp h w hw)⟩

def RX0 : String := "SueOrSettle$End"
def TX0 : u_T := fun k => match k with
  | 0 => ("SueOrSettle$End", "sense", "LSueOrSettle$Sense;", true)
  | 1 => ("SueOrSettle$End", "number", "I", true)
  | _ => ("SueOrSettle$End", "part", "I", true)
def tyX0 : Nat → FieldType := fun k => match k with
  | 0 => .object "SueOrSettle$Sense"
  | 1 => .int
  | _ => .int
theorem nmX0 : ∀ a, a < 3 → ∀ b, b < 3 → a ≠ b → (TX0 a).2.1 ≠ (TX0 b).2.1 := by decide +kernel
theorem tyX0_ok : ∀ k, k < 3 → parseFieldDescriptor (TX0 k).2.2.1 = some (tyX0 k) := by decide +kernel
def RX1 : String := "SueOrSettle$Felt"
def TX1 : u_T := fun k => match k with
  | 0 => ("SueOrSettle$End", "sense", "LSueOrSettle$Sense;", true)
  | 1 => ("SueOrSettle$End", "number", "I", true)
  | _ => ("SueOrSettle$End", "part", "I", true)
def tyX1 : Nat → FieldType := fun k => match k with
  | 0 => .object "SueOrSettle$Sense"
  | 1 => .int
  | _ => .int
theorem nmX1 : ∀ a, a < 3 → ∀ b, b < 3 → a ≠ b → (TX1 a).2.1 ≠ (TX1 b).2.1 := by decide +kernel
theorem tyX1_ok : ∀ k, k < 3 → parseFieldDescriptor (TX1 k).2.2.1 = some (tyX1 k) := by decide +kernel
def RX2 : String := "SueOrSettle$Least"
def TX2 : u_T := fun k => match k with
  | 0 => ("SueOrSettle$End", "sense", "LSueOrSettle$Sense;", true)
  | 1 => ("SueOrSettle$End", "number", "I", true)
  | _ => ("SueOrSettle$End", "part", "I", true)
def tyX2 : Nat → FieldType := fun k => match k with
  | 0 => .object "SueOrSettle$Sense"
  | 1 => .int
  | _ => .int
theorem nmX2 : ∀ a, a < 3 → ∀ b, b < 3 → a ≠ b → (TX2 a).2.1 ≠ (TX2 b).2.1 := by decide +kernel
theorem tyX2_ok : ∀ k, k < 3 → parseFieldDescriptor (TX2 k).2.2.1 = some (tyX2 k) := by decide +kernel
def RX3 : String := "SueOrSettle$Part"
def TX3 : u_T := fun k => match k with
  | 0 => ("SueOrSettle$End", "sense", "LSueOrSettle$Sense;", true)
  | 1 => ("SueOrSettle$End", "number", "I", true)
  | _ => ("SueOrSettle$End", "part", "I", true)
def tyX3 : Nat → FieldType := fun k => match k with
  | 0 => .object "SueOrSettle$Sense"
  | 1 => .int
  | _ => .int
theorem nmX3 : ∀ a, a < 3 → ∀ b, b < 3 → a ≠ b → (TX3 a).2.1 ≠ (TX3 b).2.1 := by decide +kernel
theorem tyX3_ok : ∀ k, k < 3 → parseFieldDescriptor (TX3 k).2.2.1 = some (tyX3 k) := by decide +kernel
def RX4 : String := "SueOrSettle$Quarrel"
def TX4 : u_T := fun k => match k with
  | 0 => ("SueOrSettle$Quarrel", "size", "I", false)
  | 1 => ("SueOrSettle$Quarrel", "firstChoice", "I", false)
  | 2 => ("SueOrSettle$Quarrel", "kinds", "[I", true)
  | 3 => ("SueOrSettle$Quarrel", "whats", "[I", true)
  | 4 => ("SueOrSettle$Quarrel", "branches", "[I", true)
  | 5 => ("SueOrSettle$Quarrel", "behind", "[I", true)
  | 6 => ("SueOrSettle$Quarrel", "costs", "[I", true)
  | 7 => ("SueOrSettle$Quarrel", "above", "[I", true)
  | 8 => ("SueOrSettle$Quarrel", "known", "[I", true)
  | 9 => ("SueOrSettle$Quarrel", "judged", "[I", true)
  | 10 => ("SueOrSettle$Quarrel", "picks", "[I", true)
  | 11 => ("SueOrSettle$Quarrel", "paid", "[I", true)
  | 12 => ("SueOrSettle$Quarrel", "worths", "[J", true)
  | _ => ("SueOrSettle$Quarrel", "reached", "[Z", true)
def tyX4 : Nat → FieldType := fun k => match k with
  | 0 => .int
  | 1 => .int
  | 2 => .array .int
  | 3 => .array .int
  | 4 => .array .int
  | 5 => .array .int
  | 6 => .array .int
  | 7 => .array .int
  | 8 => .array .int
  | 9 => .array .int
  | 10 => .array .int
  | 11 => .array .int
  | 12 => .array .long
  | _ => .array .boolean
theorem nmX4 : ∀ a, a < 14 → ∀ b, b < 14 → a ≠ b → (TX4 a).2.1 ≠ (TX4 b).2.1 := by decide +kernel
theorem tyX4_ok : ∀ k, k < 14 → parseFieldDescriptor (TX4 k).2.2.1 = some (tyX4 k) := by decide +kernel
def RX5 : String := "SueOrSettle$Reader"
def TX5 : u_T := fun k => match k with
  | 0 => ("SueOrSettle$Reader", "size", "I", false)
  | 1 => ("SueOrSettle$Reader", "fault", "I", false)
  | 2 => ("SueOrSettle$Reader", "at", "I", false)
  | 3 => ("SueOrSettle$Reader", "nodes", "I", false)
  | 4 => ("SueOrSettle$Reader", "toldCount", "I", false)
  | 5 => ("SueOrSettle$Reader", "tape", "[B", true)
  | 6 => ("SueOrSettle$Reader", "told", "[I", true)
  | 7 => ("SueOrSettle$Reader", "kinds", "[I", true)
  | 8 => ("SueOrSettle$Reader", "whats", "[I", true)
  | 9 => ("SueOrSettle$Reader", "branches", "[I", true)
  | 10 => ("SueOrSettle$Reader", "below", "[I", true)
  | 11 => ("SueOrSettle$Reader", "costs", "[I", true)
  | 12 => ("SueOrSettle$Reader", "turnedIn", "[I", true)
  | 13 => ("SueOrSettle$Reader", "deep", "[I", true)
  | _ => ("SueOrSettle$Reader", "sizes", "[I", true)
def tyX5 : Nat → FieldType := fun k => match k with
  | 0 => .int
  | 1 => .int
  | 2 => .int
  | 3 => .int
  | 4 => .int
  | 5 => .array .byte
  | 6 => .array .int
  | 7 => .array .int
  | 8 => .array .int
  | 9 => .array .int
  | 10 => .array .int
  | 11 => .array .int
  | 12 => .array .int
  | 13 => .array .int
  | _ => .array .int
theorem nmX5 : ∀ a, a < 15 → ∀ b, b < 15 → a ≠ b → (TX5 a).2.1 ≠ (TX5 b).2.1 := by decide +kernel
theorem tyX5_ok : ∀ k, k < 15 → parseFieldDescriptor (TX5 k).2.2.1 = some (tyX5 k) := by decide +kernel
def RX6 : String := "SueOrSettle$Regret"
def TX6 : u_T := fun k => match k with
  | 0 => ("SueOrSettle$End", "sense", "LSueOrSettle$Sense;", true)
  | 1 => ("SueOrSettle$End", "number", "I", true)
  | _ => ("SueOrSettle$End", "part", "I", true)
def tyX6 : Nat → FieldType := fun k => match k with
  | 0 => .object "SueOrSettle$Sense"
  | 1 => .int
  | _ => .int
theorem nmX6 : ∀ a, a < 3 → ∀ b, b < 3 → a ≠ b → (TX6 a).2.1 ≠ (TX6 b).2.1 := by decide +kernel
theorem tyX6_ok : ∀ k, k < 3 → parseFieldDescriptor (TX6 k).2.2.1 = some (tyX6 k) := by decide +kernel
def RX7 : String := "SueOrSettle$Sense"
def TX7 : u_T := fun k => match k with
  | 0 => ("SueOrSettle$Sense", "starts", "[I", true)
  | 1 => ("SueOrSettle$Sense", "rates", "[I", true)
  | 2 => ("SueOrSettle$Sense", "bodies", "[I", true)
  | 3 => ("SueOrSettle$Sense", "told", "I", false)
  | 4 => ("SueOrSettle$Sense", "unlike", "I", false)
  | _ => ("SueOrSettle$Sense", "ran", "I", false)
def tyX7 : Nat → FieldType := fun k => match k with
  | 0 => .array .int
  | 1 => .array .int
  | 2 => .array .int
  | 3 => .int
  | 4 => .int
  | _ => .int
theorem nmX7 : ∀ a, a < 6 → ∀ b, b < 6 → a ≠ b → (TX7 a).2.1 ≠ (TX7 b).2.1 := by decide +kernel
theorem tyX7_ok : ∀ k, k < 6 → parseFieldDescriptor (TX7 k).2.2.1 = some (tyX7 k) := by decide +kernel
def RX8 : String := "SueOrSettle$Shy"
def TX8 : u_T := fun k => match k with
  | 0 => ("SueOrSettle$End", "sense", "LSueOrSettle$Sense;", true)
  | 1 => ("SueOrSettle$End", "number", "I", true)
  | _ => ("SueOrSettle$End", "part", "I", true)
def tyX8 : Nat → FieldType := fun k => match k with
  | 0 => .object "SueOrSettle$Sense"
  | 1 => .int
  | _ => .int
theorem nmX8 : ∀ a, a < 3 → ∀ b, b < 3 → a ≠ b → (TX8 a).2.1 ≠ (TX8 b).2.1 := by decide +kernel
theorem tyX8_ok : ∀ k, k < 3 → parseFieldDescriptor (TX8 k).2.2.1 = some (tyX8 k) := by decide +kernel
def RX9 : String := "SueOrSettle$Sides"
def TX9 : u_T := fun k => match k with
  | 0 => ("SueOrSettle$Sides", "rows", "I", false)
  | 1 => ("SueOrSettle$Sides", "columns", "I", false)
  | 2 => ("SueOrSettle$Sides", "cells", "[I", true)
  | 3 => ("SueOrSettle$Sides", "sortCount", "I", false)
  | 4 => ("SueOrSettle$Sides", "weights", "[I", true)
  | 5 => ("SueOrSettle$Sides", "wins", "[I", true)
  | 6 => ("SueOrSettle$Sides", "courtCosts", "[I", true)
  | 7 => ("SueOrSettle$Sides", "offerCount", "I", false)
  | 8 => ("SueOrSettle$Sides", "offers", "[I", true)
  | 9 => ("SueOrSettle$Sides", "effortCount", "I", false)
  | 10 => ("SueOrSettle$Sides", "effortCosts", "[I", true)
  | 11 => ("SueOrSettle$Sides", "effortChances", "[I", true)
  | 12 => ("SueOrSettle$Sides", "dayOffers", "[I", true)
  | 13 => ("SueOrSettle$Sides", "dayChances", "[I", true)
  | _ => ("SueOrSettle$Sides", "dayCosts", "[I", true)
def tyX9 : Nat → FieldType := fun k => match k with
  | 0 => .int
  | 1 => .int
  | 2 => .array .int
  | 3 => .int
  | 4 => .array .int
  | 5 => .array .int
  | 6 => .array .int
  | 7 => .int
  | 8 => .array .int
  | 9 => .int
  | 10 => .array .int
  | 11 => .array .int
  | 12 => .array .int
  | 13 => .array .int
  | _ => .array .int
theorem nmX9 : ∀ a, a < 15 → ∀ b, b < 15 → a ≠ b → (TX9 a).2.1 ≠ (TX9 b).2.1 := by decide +kernel
theorem tyX9_ok : ∀ k, k < 15 → parseFieldDescriptor (TX9 k).2.2.1 = some (tyX9 k) := by decide +kernel
def RX10 : String := "SueOrSettle$Things"
def TX10 : u_T := fun k => match k with
  | 0 => ("SueOrSettle$Things", "size", "I", false)
  | 1 => ("SueOrSettle$Things", "whole", "J", false)
  | 2 => ("SueOrSettle$Things", "fresh", "Z", false)
  | 3 => ("SueOrSettle$Things", "ways", "[I", true)
  | 4 => ("SueOrSettle$Things", "on", "[I", true)
  | 5 => ("SueOrSettle$Things", "weights", "[I", true)
  | 6 => ("SueOrSettle$Things", "shares", "[J", true)
  | _ => ("SueOrSettle$Things", "masses", "[J", true)
def tyX10 : Nat → FieldType := fun k => match k with
  | 0 => .int
  | 1 => .long
  | 2 => .boolean
  | 3 => .array .int
  | 4 => .array .int
  | 5 => .array .int
  | 6 => .array .long
  | _ => .array .long
theorem nmX10 : ∀ a, a < 8 → ∀ b, b < 8 → a ≠ b → (TX10 a).2.1 ≠ (TX10 b).2.1 := by decide +kernel
theorem tyX10_ok : ∀ k, k < 8 → parseFieldDescriptor (TX10 k).2.2.1 = some (tyX10 k) := by decide +kernel
def RX11 : String := "SueOrSettle"
def TX11 : u_T := fun k => match k with
  | 0 => ("SueOrSettle", "things", "LSueOrSettle$Things;", true)
  | 1 => ("SueOrSettle", "reader", "LSueOrSettle$Reader;", true)
  | 2 => ("SueOrSettle", "quarrels", "[LSueOrSettle$Quarrel;", true)
  | 3 => ("SueOrSettle", "quarrelCount", "I", false)
  | 4 => ("SueOrSettle", "sense", "LSueOrSettle$Sense;", true)
  | 5 => ("SueOrSettle", "coin", "LSueOrSettle$End;", true)
  | 6 => ("SueOrSettle", "feelings", "[LSueOrSettle$End;", true)
  | 7 => ("SueOrSettle", "feelingCount", "I", false)
  | 8 => ("SueOrSettle", "changes", "[I", true)
  | 9 => ("SueOrSettle", "changesDone", "I", false)
  | 10 => ("SueOrSettle", "changesUndone", "I", false)
  | 11 => ("SueOrSettle", "sides", "LSueOrSettle$Sides;", true)
  | 12 => ("SueOrSettle", "shelfHolds", "[I", true)
  | 13 => ("SueOrSettle", "shelfSize", "[I", true)
  | 14 => ("SueOrSettle", "shelfRows", "[J", true)
  | 15 => ("SueOrSettle", "seenPlans", "[J", true)
  | _ => ("SueOrSettle", "seenTimes", "[I", true)
def tyX11 : Nat → FieldType := fun k => match k with
  | 0 => .object "SueOrSettle$Things"
  | 1 => .object "SueOrSettle$Reader"
  | 2 => .array (.object "SueOrSettle$Quarrel")
  | 3 => .int
  | 4 => .object "SueOrSettle$Sense"
  | 5 => .object "SueOrSettle$End"
  | 6 => .array (.object "SueOrSettle$End")
  | 7 => .int
  | 8 => .array .int
  | 9 => .int
  | 10 => .int
  | 11 => .object "SueOrSettle$Sides"
  | 12 => .array .int
  | 13 => .array .int
  | 14 => .array .long
  | 15 => .array .long
  | _ => .array .int
theorem nmX11 : ∀ a, a < 17 → ∀ b, b < 17 → a ≠ b → (TX11 a).2.1 ≠ (TX11 b).2.1 := by decide +kernel
theorem tyX11_ok : ∀ k, k < 17 → parseFieldDescriptor (TX11 k).2.2.1 = some (tyX11 k) := by decide +kernel
def RX12 : String := "SueOrSettleModel"
def TX12 : u_T := fun k => match k with
  | 0 => ("SueOrSettleModel", "code", "I", false)
  | 1 => ("SueOrSettleModel", "things", "I", false)
  | 2 => ("SueOrSettleModel", "wayMany", "[I", true)
  | 3 => ("SueOrSettleModel", "hangsOn", "[I", true)
  | 4 => ("SueOrSettleModel", "weights", "[I", true)
  | 5 => ("SueOrSettleModel", "states", "I", false)
  | 6 => ("SueOrSettleModel", "stateWay", "[I", true)
  | 7 => ("SueOrSettleModel", "numbers", "[J", true)
  | 8 => ("SueOrSettleModel", "bottomIs", "J", false)
  | 9 => ("SueOrSettleModel", "quarrels", "I", false)
  | 10 => ("SueOrSettleModel", "nodeMany", "[I", true)
  | 11 => ("SueOrSettleModel", "kindOf", "[B", true)
  | 12 => ("SueOrSettleModel", "valueOf", "[I", true)
  | 13 => ("SueOrSettleModel", "toNode", "[B", true)
  | 14 => ("SueOrSettleModel", "costOf", "[I", true)
  | 15 => ("SueOrSettleModel", "planOf", "[B", true)
  | 16 => ("SueOrSettleModel", "tape", "[B", true)
  | 17 => ("SueOrSettleModel", "taped", "I", false)
  | 18 => ("SueOrSettleModel", "begins", "[I", true)
  | 19 => ("SueOrSettleModel", "capitals", "I", false)
  | 20 => ("SueOrSettleModel", "fault", "I", false)
  | 21 => ("SueOrSettleModel", "made", "I", false)
  | 22 => ("SueOrSettleModel", "doneMany", "I", false)
  | 23 => ("SueOrSettleModel", "undoneMany", "I", false)
  | 24 => ("SueOrSettleModel", "changeOf", "[I", true)
  | 25 => ("SueOrSettleModel", "changeAt", "[I", true)
  | 26 => ("SueOrSettleModel", "before", "[I", true)
  | 27 => ("SueOrSettleModel", "behind", "[I", true)
  | 28 => ("SueOrSettleModel", "feelings", "I", false)
  | 29 => ("SueOrSettleModel", "kind", "[I", true)
  | 30 => ("SueOrSettleModel", "parts", "[I", true)
  | 31 => ("SueOrSettleModel", "stepMany", "I", false)
  | 32 => ("SueOrSettleModel", "stepFrom", "[I", true)
  | 33 => ("SueOrSettleModel", "stepEach", "[I", true)
  | 34 => ("SueOrSettleModel", "known", "[I", true)
  | 35 => ("SueOrSettleModel", "bestWay", "[B", true)
  | 36 => ("SueOrSettleModel", "quarrelNow", "I", false)
  | 37 => ("SueOrSettleModel", "feelNow", "I", false)
  | 38 => ("SueOrSettleModel", "partNow", "I", false)
  | 39 => ("SueOrSettleModel", "byPlan", "Z", false)
  | 40 => ("SueOrSettleModel", "tellMany", "I", false)
  | 41 => ("SueOrSettleModel", "tellSought", "I", false)
  | 42 => ("SueOrSettleModel", "tellIs", "I", false)
  | 43 => ("SueOrSettleModel", "planBy", "[B", true)
  | 44 => ("SueOrSettleModel", "rows", "I", false)
  | 45 => ("SueOrSettleModel", "columns", "I", false)
  | 46 => ("SueOrSettleModel", "gets", "[I", true)
  | 47 => ("SueOrSettleModel", "sorts", "I", false)
  | 48 => ("SueOrSettleModel", "sortWeight", "[I", true)
  | 49 => ("SueOrSettleModel", "sortWin", "[I", true)
  | 50 => ("SueOrSettleModel", "sortCost", "[I", true)
  | 51 => ("SueOrSettleModel", "offers", "I", false)
  | 52 => ("SueOrSettleModel", "offerSum", "[I", true)
  | 53 => ("SueOrSettleModel", "efforts", "I", false)
  | 54 => ("SueOrSettleModel", "effortCost", "[I", true)
  | 55 => ("SueOrSettleModel", "effortWins", "[I", true)
  | 56 => ("SueOrSettleModel", "dayOffer", "[I", true)
  | 57 => ("SueOrSettleModel", "dayOdds", "[I", true)
  | 58 => ("SueOrSettleModel", "dayCost", "[I", true)
  | 59 => ("SueOrSettleModel", "runWay", "[I", true)
  | 60 => ("SueOrSettleModel", "traces", "I", false)
  | 61 => ("SueOrSettleModel", "traced", "[I", true)
  | 62 => ("SueOrSettleModel", "holds", "[I", true)
  | 63 => ("SueOrSettleModel", "size", "[I", true)
  | 64 => ("SueOrSettleModel", "elements", "[J", true)
  | _ => ("SueOrSettleModel", "shifted", "[J", true)
def tyX12 : Nat → FieldType := fun k => match k with
  | 0 => .int
  | 1 => .int
  | 2 => .array .int
  | 3 => .array .int
  | 4 => .array .int
  | 5 => .int
  | 6 => .array .int
  | 7 => .array .long
  | 8 => .long
  | 9 => .int
  | 10 => .array .int
  | 11 => .array .byte
  | 12 => .array .int
  | 13 => .array .byte
  | 14 => .array .int
  | 15 => .array .byte
  | 16 => .array .byte
  | 17 => .int
  | 18 => .array .int
  | 19 => .int
  | 20 => .int
  | 21 => .int
  | 22 => .int
  | 23 => .int
  | 24 => .array .int
  | 25 => .array .int
  | 26 => .array .int
  | 27 => .array .int
  | 28 => .int
  | 29 => .array .int
  | 30 => .array .int
  | 31 => .int
  | 32 => .array .int
  | 33 => .array .int
  | 34 => .array .int
  | 35 => .array .byte
  | 36 => .int
  | 37 => .int
  | 38 => .int
  | 39 => .boolean
  | 40 => .int
  | 41 => .int
  | 42 => .int
  | 43 => .array .byte
  | 44 => .int
  | 45 => .int
  | 46 => .array .int
  | 47 => .int
  | 48 => .array .int
  | 49 => .array .int
  | 50 => .array .int
  | 51 => .int
  | 52 => .array .int
  | 53 => .int
  | 54 => .array .int
  | 55 => .array .int
  | 56 => .array .int
  | 57 => .array .int
  | 58 => .array .int
  | 59 => .array .int
  | 60 => .int
  | 61 => .array .int
  | 62 => .array .int
  | 63 => .array .int
  | 64 => .array .long
  | _ => .array .long
theorem nmX12 : ∀ a, a < 66 → ∀ b, b < 66 → a ≠ b → (TX12 a).2.1 ≠ (TX12 b).2.1 := by decide +kernel
theorem tyX12_ok : ∀ k, k < 66 → parseFieldDescriptor (TX12 k).2.2.1 = some (tyX12 k) := by decide +kernel
abbrev vwCl : List vw_C := [(RX0, TX0, 3), (RX1, TX1, 3), (RX2, TX2, 3), (RX3, TX3, 3), (RX4, TX4, 14), (RX5, TX5, 15), (RX6, TX6, 3), (RX7, TX7, 6), (RX8, TX8, 3), (RX9, TX9, 15), (RX10, TX10, 8), (RX11, TX11, 17), (RX12, TX12, 66)]
def jNC : List (String × String) := [(RX0, RX1), (RX0, RX2), (RX0, RX3), (RX0, RX6), (RX0, RX8), (RX1, RX2), (RX1, RX3), (RX1, RX6), (RX1, RX8), (RX2, RX1), (RX2, RX3), (RX2, RX6), (RX2, RX8), (RX3, RX1), (RX3, RX2), (RX3, RX6), (RX3, RX8), (RX6, RX2), (RX6, RX3), (RX6, RX8), (RX8, RX1), (RX8, RX2), (RX8, RX6)]
