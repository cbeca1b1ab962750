section
-- ===== PART A: goes FIRST, ahead of the names: the tables' words, and 'selects' of the private methods out of them =====
/-- a private method of a class that the tables say can be made, by its rows of tables_1 -/
def lw_okq (q : MethodName × Nat) : Prop := (q.1.cls ≠ "java/lang/invoke/MethodHandle" ∧ q.1.cls ≠ "java/lang/invoke/VarHandle") ∧ Cond.instantiable q.1.cls q.2 ∈ tables_1 ∧ Cond.privateMethod q.1 ∈ tables_1 ∧ Cond.instanceMethod q.1 ∈ tables_1
theorem lw_p0 : lw_okq (⟨"SueOrSettle$Things", "levelWeights", "(I)V"⟩, 8) := ⟨⟨by decide +kernel, by decide +kernel⟩, List.mem_of_getElem? (i := 26) (by decide +kernel), List.mem_of_getElem? (i := 291) (by decide +kernel), List.mem_of_getElem? (i := 292) (by decide +kernel)⟩
theorem lw_p1 : lw_okq (⟨"SueOrSettle$Things", "rowsOf", "(I)I"⟩, 8) := ⟨⟨by decide +kernel, by decide +kernel⟩, List.mem_of_getElem? (i := 26) (by decide +kernel), List.mem_of_getElem? (i := 323) (by decide +kernel), List.mem_of_getElem? (i := 324) (by decide +kernel)⟩
theorem lw_p2 : lw_okq (⟨"SueOrSettle", "remember", "(III)V"⟩, 17) := ⟨⟨by decide +kernel, by decide +kernel⟩, List.mem_of_getElem? (i := 18) (by decide +kernel), List.mem_of_getElem? (i := 336) (by decide +kernel), List.mem_of_getElem? (i := 337) (by decide +kernel)⟩
theorem lw_p3 : lw_okq (⟨"SueOrSettle$Things", "commonMultiple", "(I)J"⟩, 8) := ⟨⟨by decide +kernel, by decide +kernel⟩, List.mem_of_getElem? (i := 26) (by decide +kernel), List.mem_of_getElem? (i := 355) (by decide +kernel), List.mem_of_getElem? (i := 356) (by decide +kernel)⟩
theorem lw_p4 : lw_okq (⟨"SueOrSettle$Things", "weighStates", "()V"⟩, 8) := ⟨⟨by decide +kernel, by decide +kernel⟩, List.mem_of_getElem? (i := 26) (by decide +kernel), List.mem_of_getElem? (i := 367) (by decide +kernel), List.mem_of_getElem? (i := 368) (by decide +kernel)⟩
theorem lw_p5 : lw_okq (⟨"SueOrSettle$Things", "spread", "(I)V"⟩, 8) := ⟨⟨by decide +kernel, by decide +kernel⟩, List.mem_of_getElem? (i := 26) (by decide +kernel), List.mem_of_getElem? (i := 371) (by decide +kernel), List.mem_of_getElem? (i := 372) (by decide +kernel)⟩
theorem lw_p6 : lw_okq (⟨"SueOrSettle$Things", "addUp", "(I)V"⟩, 8) := ⟨⟨by decide +kernel, by decide +kernel⟩, List.mem_of_getElem? (i := 26) (by decide +kernel), List.mem_of_getElem? (i := 375) (by decide +kernel), List.mem_of_getElem? (i := 376) (by decide +kernel)⟩
theorem lw_p7 : lw_okq (⟨"SueOrSettle$Reader", "sign", "()I"⟩, 15) := ⟨⟨by decide +kernel, by decide +kernel⟩, List.mem_of_getElem? (i := 61) (by decide +kernel), List.mem_of_getElem? (i := 444) (by decide +kernel), List.mem_of_getElem? (i := 445) (by decide +kernel)⟩
theorem lw_p8 : lw_okq (⟨"SueOrSettle$Reader", "pass", "(I)V"⟩, 15) := ⟨⟨by decide +kernel, by decide +kernel⟩, List.mem_of_getElem? (i := 61) (by decide +kernel), List.mem_of_getElem? (i := 448) (by decide +kernel), List.mem_of_getElem? (i := 449) (by decide +kernel)⟩
theorem lw_p9 : lw_okq (⟨"SueOrSettle$Reader", "fail", "()V"⟩, 15) := ⟨⟨by decide +kernel, by decide +kernel⟩, List.mem_of_getElem? (i := 61) (by decide +kernel), List.mem_of_getElem? (i := 452) (by decide +kernel), List.mem_of_getElem? (i := 453) (by decide +kernel)⟩
theorem lw_p10 : lw_okq (⟨"SueOrSettle$Reader", "readNode", "(LSueOrSettle$Things;II)I"⟩, 15) := ⟨⟨by decide +kernel, by decide +kernel⟩, List.mem_of_getElem? (i := 61) (by decide +kernel), List.mem_of_getElem? (i := 456) (by decide +kernel), List.mem_of_getElem? (i := 457) (by decide +kernel)⟩
theorem lw_p11 : lw_okq (⟨"SueOrSettle$Reader", "readChoice", "(LSueOrSettle$Things;II)I"⟩, 15) := ⟨⟨by decide +kernel, by decide +kernel⟩, List.mem_of_getElem? (i := 61) (by decide +kernel), List.mem_of_getElem? (i := 460) (by decide +kernel), List.mem_of_getElem? (i := 461) (by decide +kernel)⟩
theorem lw_p12 : lw_okq (⟨"SueOrSettle$Reader", "passOpening", "(I)V"⟩, 15) := ⟨⟨by decide +kernel, by decide +kernel⟩, List.mem_of_getElem? (i := 61) (by decide +kernel), List.mem_of_getElem? (i := 464) (by decide +kernel), List.mem_of_getElem? (i := 465) (by decide +kernel)⟩
theorem lw_p13 : lw_okq (⟨"SueOrSettle$Reader", "newNode", "(I)I"⟩, 15) := ⟨⟨by decide +kernel, by decide +kernel⟩, List.mem_of_getElem? (i := 61) (by decide +kernel), List.mem_of_getElem? (i := 468) (by decide +kernel), List.mem_of_getElem? (i := 469) (by decide +kernel)⟩
theorem lw_p14 : lw_okq (⟨"SueOrSettle$Reader", "readNumber", "(I)I"⟩, 15) := ⟨⟨by decide +kernel, by decide +kernel⟩, List.mem_of_getElem? (i := 61) (by decide +kernel), List.mem_of_getElem? (i := 472) (by decide +kernel), List.mem_of_getElem? (i := 473) (by decide +kernel)⟩
theorem lw_p15 : lw_okq (⟨"SueOrSettle$Reader", "isDigit", "()Z"⟩, 15) := ⟨⟨by decide +kernel, by decide +kernel⟩, List.mem_of_getElem? (i := 61) (by decide +kernel), List.mem_of_getElem? (i := 476) (by decide +kernel), List.mem_of_getElem? (i := 477) (by decide +kernel)⟩
def lw_privs_1 : List (MethodName × Nat) := [(⟨"SueOrSettle$Things", "levelWeights", "(I)V"⟩, 8), (⟨"SueOrSettle$Things", "rowsOf", "(I)I"⟩, 8), (⟨"SueOrSettle", "remember", "(III)V"⟩, 17), (⟨"SueOrSettle$Things", "commonMultiple", "(I)J"⟩, 8), (⟨"SueOrSettle$Things", "weighStates", "()V"⟩, 8), (⟨"SueOrSettle$Things", "spread", "(I)V"⟩, 8), (⟨"SueOrSettle$Things", "addUp", "(I)V"⟩, 8), (⟨"SueOrSettle$Reader", "sign", "()I"⟩, 15), (⟨"SueOrSettle$Reader", "pass", "(I)V"⟩, 15), (⟨"SueOrSettle$Reader", "fail", "()V"⟩, 15), (⟨"SueOrSettle$Reader", "readNode", "(LSueOrSettle$Things;II)I"⟩, 15), (⟨"SueOrSettle$Reader", "readChoice", "(LSueOrSettle$Things;II)I"⟩, 15), (⟨"SueOrSettle$Reader", "passOpening", "(I)V"⟩, 15), (⟨"SueOrSettle$Reader", "newNode", "(I)I"⟩, 15), (⟨"SueOrSettle$Reader", "readNumber", "(I)I"⟩, 15), (⟨"SueOrSettle$Reader", "isDigit", "()Z"⟩, 15)]
theorem lw_r1 : ∀ q ∈ lw_privs_1, lw_okq q := List.forall_mem_cons.mpr ⟨lw_p0, List.forall_mem_cons.mpr ⟨lw_p1, List.forall_mem_cons.mpr ⟨lw_p2, List.forall_mem_cons.mpr ⟨lw_p3, List.forall_mem_cons.mpr ⟨lw_p4, List.forall_mem_cons.mpr ⟨lw_p5, List.forall_mem_cons.mpr ⟨lw_p6, List.forall_mem_cons.mpr ⟨lw_p7, List.forall_mem_cons.mpr ⟨lw_p8, List.forall_mem_cons.mpr ⟨lw_p9, List.forall_mem_cons.mpr ⟨lw_p10, List.forall_mem_cons.mpr ⟨lw_p11, List.forall_mem_cons.mpr ⟨lw_p12, List.forall_mem_cons.mpr ⟨lw_p13, List.forall_mem_cons.mpr ⟨lw_p14, List.forall_mem_cons.mpr ⟨lw_p15, fun _ h => absurd h List.not_mem_nil⟩⟩⟩⟩⟩⟩⟩⟩⟩⟩⟩⟩⟩⟩⟩⟩
theorem lw_p16 : lw_okq (⟨"SueOrSettle$Reader", "lead", "(IIII)V"⟩, 15) := ⟨⟨by decide +kernel, by decide +kernel⟩, List.mem_of_getElem? (i := 61) (by decide +kernel), List.mem_of_getElem? (i := 480) (by decide +kernel), List.mem_of_getElem? (i := 481) (by decide +kernel)⟩
theorem lw_p17 : lw_okq (⟨"SueOrSettle$Reader", "readTurns", "(LSueOrSettle$Things;II)I"⟩, 15) := ⟨⟨by decide +kernel, by decide +kernel⟩, List.mem_of_getElem? (i := 61) (by decide +kernel), List.mem_of_getElem? (i := 490) (by decide +kernel), List.mem_of_getElem? (i := 491) (by decide +kernel)⟩
theorem lw_p18 : lw_okq (⟨"SueOrSettle$Reader", "readCapital", "(II)I"⟩, 15) := ⟨⟨by decide +kernel, by decide +kernel⟩, List.mem_of_getElem? (i := 61) (by decide +kernel), List.mem_of_getElem? (i := 499) (by decide +kernel), List.mem_of_getElem? (i := 500) (by decide +kernel)⟩
theorem lw_p19 : lw_okq (⟨"SueOrSettle$Reader", "readEnd", "()I"⟩, 15) := ⟨⟨by decide +kernel, by decide +kernel⟩, List.mem_of_getElem? (i := 61) (by decide +kernel), List.mem_of_getElem? (i := 503) (by decide +kernel), List.mem_of_getElem? (i := 504) (by decide +kernel)⟩
theorem lw_p20 : lw_okq (⟨"SueOrSettle$Reader", "writeOut", "(LSueOrSettle$Quarrel;IIII)I"⟩, 15) := ⟨⟨by decide +kernel, by decide +kernel⟩, List.mem_of_getElem? (i := 61) (by decide +kernel), List.mem_of_getElem? (i := 569) (by decide +kernel), List.mem_of_getElem? (i := 570) (by decide +kernel)⟩
theorem lw_p21 : lw_okq (⟨"SueOrSettle", "quarrelAt", "(I)LSueOrSettle$Quarrel;"⟩, 17) := ⟨⟨by decide +kernel, by decide +kernel⟩, List.mem_of_getElem? (i := 18) (by decide +kernel), List.mem_of_getElem? (i := 593) (by decide +kernel), List.mem_of_getElem? (i := 594) (by decide +kernel)⟩
theorem lw_p22 : lw_okq (⟨"SueOrSettle", "restore", "(II)V"⟩, 17) := ⟨⟨by decide +kernel, by decide +kernel⟩, List.mem_of_getElem? (i := 18) (by decide +kernel), List.mem_of_getElem? (i := 657) (by decide +kernel), List.mem_of_getElem? (i := 658) (by decide +kernel)⟩
theorem lw_p23 : lw_okq (⟨"SueOrSettle", "newFeeling", "(III)LSueOrSettle$End;"⟩, 17) := ⟨⟨by decide +kernel, by decide +kernel⟩, List.mem_of_getElem? (i := 18) (by decide +kernel), List.mem_of_getElem? (i := 669) (by decide +kernel), List.mem_of_getElem? (i := 670) (by decide +kernel)⟩
theorem lw_p24 : lw_okq (⟨"SueOrSettle", "feelingAt", "(I)LSueOrSettle$End;"⟩, 17) := ⟨⟨by decide +kernel, by decide +kernel⟩, List.mem_of_getElem? (i := 18) (by decide +kernel), List.mem_of_getElem? (i := 739) (by decide +kernel), List.mem_of_getElem? (i := 740) (by decide +kernel)⟩
theorem lw_p25 : lw_okq (⟨"SueOrSettle$Sense", "sumOver", "(II)I"⟩, 6) := ⟨⟨by decide +kernel, by decide +kernel⟩, List.mem_of_getElem? (i := 118) (by decide +kernel), List.mem_of_getElem? (i := 754) (by decide +kernel), List.mem_of_getElem? (i := 755) (by decide +kernel)⟩
theorem lw_p26 : lw_okq (⟨"SueOrSettle$Quarrel", "weighEnds", "(LSueOrSettle$Things;LSueOrSettle$End;I)V"⟩, 14) := ⟨⟨by decide +kernel, by decide +kernel⟩, List.mem_of_getElem? (i := 516) (by decide +kernel), List.mem_of_getElem? (i := 776) (by decide +kernel), List.mem_of_getElem? (i := 777) (by decide +kernel)⟩
theorem lw_p27 : lw_okq (⟨"SueOrSettle$Quarrel", "rise", "(ZZ)J"⟩, 14) := ⟨⟨by decide +kernel, by decide +kernel⟩, List.mem_of_getElem? (i := 516) (by decide +kernel), List.mem_of_getElem? (i := 799) (by decide +kernel), List.mem_of_getElem? (i := 800) (by decide +kernel)⟩
theorem lw_p28 : lw_okq (⟨"SueOrSettle$Quarrel", "bestWay", "(IIJ)I"⟩, 14) := ⟨⟨by decide +kernel, by decide +kernel⟩, List.mem_of_getElem? (i := 516) (by decide +kernel), List.mem_of_getElem? (i := 803) (by decide +kernel), List.mem_of_getElem? (i := 804) (by decide +kernel)⟩
theorem lw_p29 : lw_okq (⟨"SueOrSettle$Quarrel", "turnedWorth", "(IZ)J"⟩, 14) := ⟨⟨by decide +kernel, by decide +kernel⟩, List.mem_of_getElem? (i := 516) (by decide +kernel), List.mem_of_getElem? (i := 807) (by decide +kernel), List.mem_of_getElem? (i := 808) (by decide +kernel)⟩
theorem lw_p30 : lw_okq (⟨"SueOrSettle", "worthOf", "(LSueOrSettle$Quarrel;LSueOrSettle$End;JI)J"⟩, 17) := ⟨⟨by decide +kernel, by decide +kernel⟩, List.mem_of_getElem? (i := 18) (by decide +kernel), List.mem_of_getElem? (i := 819) (by decide +kernel), List.mem_of_getElem? (i := 820) (by decide +kernel)⟩
theorem lw_p31 : lw_okq (⟨"SueOrSettle$Quarrel", "greatestValue", "(I)I"⟩, 14) := ⟨⟨by decide +kernel, by decide +kernel⟩, List.mem_of_getElem? (i := 516) (by decide +kernel), List.mem_of_getElem? (i := 844) (by decide +kernel), List.mem_of_getElem? (i := 845) (by decide +kernel)⟩
def lw_privs_2 : List (MethodName × Nat) := [(⟨"SueOrSettle$Reader", "lead", "(IIII)V"⟩, 15), (⟨"SueOrSettle$Reader", "readTurns", "(LSueOrSettle$Things;II)I"⟩, 15), (⟨"SueOrSettle$Reader", "readCapital", "(II)I"⟩, 15), (⟨"SueOrSettle$Reader", "readEnd", "()I"⟩, 15), (⟨"SueOrSettle$Reader", "writeOut", "(LSueOrSettle$Quarrel;IIII)I"⟩, 15), (⟨"SueOrSettle", "quarrelAt", "(I)LSueOrSettle$Quarrel;"⟩, 17), (⟨"SueOrSettle", "restore", "(II)V"⟩, 17), (⟨"SueOrSettle", "newFeeling", "(III)LSueOrSettle$End;"⟩, 17), (⟨"SueOrSettle", "feelingAt", "(I)LSueOrSettle$End;"⟩, 17), (⟨"SueOrSettle$Sense", "sumOver", "(II)I"⟩, 6), (⟨"SueOrSettle$Quarrel", "weighEnds", "(LSueOrSettle$Things;LSueOrSettle$End;I)V"⟩, 14), (⟨"SueOrSettle$Quarrel", "rise", "(ZZ)J"⟩, 14), (⟨"SueOrSettle$Quarrel", "bestWay", "(IIJ)I"⟩, 14), (⟨"SueOrSettle$Quarrel", "turnedWorth", "(IZ)J"⟩, 14), (⟨"SueOrSettle", "worthOf", "(LSueOrSettle$Quarrel;LSueOrSettle$End;JI)J"⟩, 17), (⟨"SueOrSettle$Quarrel", "greatestValue", "(I)I"⟩, 14)]
theorem lw_r2 : ∀ q ∈ lw_privs_2, lw_okq q := List.forall_mem_cons.mpr ⟨lw_p16, List.forall_mem_cons.mpr ⟨lw_p17, List.forall_mem_cons.mpr ⟨lw_p18, List.forall_mem_cons.mpr ⟨lw_p19, List.forall_mem_cons.mpr ⟨lw_p20, List.forall_mem_cons.mpr ⟨lw_p21, List.forall_mem_cons.mpr ⟨lw_p22, List.forall_mem_cons.mpr ⟨lw_p23, List.forall_mem_cons.mpr ⟨lw_p24, List.forall_mem_cons.mpr ⟨lw_p25, List.forall_mem_cons.mpr ⟨lw_p26, List.forall_mem_cons.mpr ⟨lw_p27, List.forall_mem_cons.mpr ⟨lw_p28, List.forall_mem_cons.mpr ⟨lw_p29, List.forall_mem_cons.mpr ⟨lw_p30, List.forall_mem_cons.mpr ⟨lw_p31, fun _ h => absurd h List.not_mem_nil⟩⟩⟩⟩⟩⟩⟩⟩⟩⟩⟩⟩⟩⟩⟩⟩
theorem lw_p32 : lw_okq (⟨"SueOrSettle$Quarrel", "reachByPlan", "()V"⟩, 14) := ⟨⟨by decide +kernel, by decide +kernel⟩, List.mem_of_getElem? (i := 516) (by decide +kernel), List.mem_of_getElem? (i := 881) (by decide +kernel), List.mem_of_getElem? (i := 882) (by decide +kernel)⟩
theorem lw_p33 : lw_okq (⟨"SueOrSettle$Quarrel", "isBettered", "(ILSueOrSettle$End;J)Z"⟩, 14) := ⟨⟨by decide +kernel, by decide +kernel⟩, List.mem_of_getElem? (i := 516) (by decide +kernel), List.mem_of_getElem? (i := 885) (by decide +kernel), List.mem_of_getElem? (i := 886) (by decide +kernel)⟩
theorem lw_p34 : lw_okq (⟨"SueOrSettle", "edgeOfWeight", "(LSueOrSettle$Quarrel;II)I"⟩, 17) := ⟨⟨by decide +kernel, by decide +kernel⟩, List.mem_of_getElem? (i := 18) (by decide +kernel), List.mem_of_getElem? (i := 932) (by decide +kernel), List.mem_of_getElem? (i := 933) (by decide +kernel)⟩
theorem lw_p35 : lw_okq (⟨"SueOrSettle$Quarrel", "turnsFirst", "(IJ)Z"⟩, 14) := ⟨⟨by decide +kernel, by decide +kernel⟩, List.mem_of_getElem? (i := 516) (by decide +kernel), List.mem_of_getElem? (i := 953) (by decide +kernel), List.mem_of_getElem? (i := 954) (by decide +kernel)⟩
theorem lw_p36 : lw_okq (⟨"SueOrSettle", "isDoubt", "(II)Z"⟩, 17) := ⟨⟨by decide +kernel, by decide +kernel⟩, List.mem_of_getElem? (i := 18) (by decide +kernel), List.mem_of_getElem? (i := 965) (by decide +kernel), List.mem_of_getElem? (i := 966) (by decide +kernel)⟩
theorem lw_p37 : lw_okq (⟨"SueOrSettle", "isBigWithin", "(II)Z"⟩, 17) := ⟨⟨by decide +kernel, by decide +kernel⟩, List.mem_of_getElem? (i := 18) (by decide +kernel), List.mem_of_getElem? (i := 969) (by decide +kernel), List.mem_of_getElem? (i := 970) (by decide +kernel)⟩
theorem lw_p38 : lw_okq (⟨"SueOrSettle", "timesHeld", "(LSueOrSettle$Quarrel;II)I"⟩, 17) := ⟨⟨by decide +kernel, by decide +kernel⟩, List.mem_of_getElem? (i := 18) (by decide +kernel), List.mem_of_getElem? (i := 974) (by decide +kernel), List.mem_of_getElem? (i := 975) (by decide +kernel)⟩
theorem lw_p39 : lw_okq (⟨"SueOrSettle", "timesSteady", "(LSueOrSettle$Quarrel;II)I"⟩, 17) := ⟨⟨by decide +kernel, by decide +kernel⟩, List.mem_of_getElem? (i := 18) (by decide +kernel), List.mem_of_getElem? (i := 979) (by decide +kernel), List.mem_of_getElem? (i := 980) (by decide +kernel)⟩
theorem lw_p40 : lw_okq (⟨"SueOrSettle", "countPlan", "(I)I"⟩, 17) := ⟨⟨by decide +kernel, by decide +kernel⟩, List.mem_of_getElem? (i := 18) (by decide +kernel), List.mem_of_getElem? (i := 987) (by decide +kernel), List.mem_of_getElem? (i := 988) (by decide +kernel)⟩
theorem lw_p41 : lw_okq (⟨"SueOrSettle", "leastWorth", "(LSueOrSettle$Quarrel;III)J"⟩, 17) := ⟨⟨by decide +kernel, by decide +kernel⟩, List.mem_of_getElem? (i := 18) (by decide +kernel), List.mem_of_getElem? (i := 1000) (by decide +kernel), List.mem_of_getElem? (i := 1001) (by decide +kernel)⟩
theorem lw_p42 : lw_okq (⟨"SueOrSettle$Sides", "gets", "(III)I"⟩, 15) := ⟨⟨by decide +kernel, by decide +kernel⟩, List.mem_of_getElem? (i := 175) (by decide +kernel), List.mem_of_getElem? (i := 1026) (by decide +kernel), List.mem_of_getElem? (i := 1027) (by decide +kernel)⟩
theorem lw_p43 : lw_okq (⟨"SueOrSettle$Sides", "isSure", "(II)Z"⟩, 15) := ⟨⟨by decide +kernel, by decide +kernel⟩, List.mem_of_getElem? (i := 175) (by decide +kernel), List.mem_of_getElem? (i := 1042) (by decide +kernel), List.mem_of_getElem? (i := 1043) (by decide +kernel)⟩
theorem lw_p44 : lw_okq (⟨"SueOrSettle$Sides", "isSettled", "()Z"⟩, 15) := ⟨⟨by decide +kernel, by decide +kernel⟩, List.mem_of_getElem? (i := 175) (by decide +kernel), List.mem_of_getElem? (i := 1058) (by decide +kernel), List.mem_of_getElem? (i := 1059) (by decide +kernel)⟩
theorem lw_p45 : lw_okq (⟨"SueOrSettle$Sides", "sureOfOne", "()I"⟩, 15) := ⟨⟨by decide +kernel, by decide +kernel⟩, List.mem_of_getElem? (i := 175) (by decide +kernel), List.mem_of_getElem? (i := 1064) (by decide +kernel), List.mem_of_getElem? (i := 1065) (by decide +kernel)⟩
theorem lw_p46 : lw_okq (⟨"SueOrSettle$Sides", "duelMix", "()I"⟩, 15) := ⟨⟨by decide +kernel, by decide +kernel⟩, List.mem_of_getElem? (i := 175) (by decide +kernel), List.mem_of_getElem? (i := 1068) (by decide +kernel), List.mem_of_getElem? (i := 1069) (by decide +kernel)⟩
theorem lw_p47 : lw_okq (⟨"SueOrSettle$Sides", "lineToStrike", "(III)I"⟩, 15) := ⟨⟨by decide +kernel, by decide +kernel⟩, List.mem_of_getElem? (i := 175) (by decide +kernel), List.mem_of_getElem? (i := 1084) (by decide +kernel), List.mem_of_getElem? (i := 1085) (by decide +kernel)⟩
def lw_privs_3 : List (MethodName × Nat) := [(⟨"SueOrSettle$Quarrel", "reachByPlan", "()V"⟩, 14), (⟨"SueOrSettle$Quarrel", "isBettered", "(ILSueOrSettle$End;J)Z"⟩, 14), (⟨"SueOrSettle", "edgeOfWeight", "(LSueOrSettle$Quarrel;II)I"⟩, 17), (⟨"SueOrSettle$Quarrel", "turnsFirst", "(IJ)Z"⟩, 14), (⟨"SueOrSettle", "isDoubt", "(II)Z"⟩, 17), (⟨"SueOrSettle", "isBigWithin", "(II)Z"⟩, 17), (⟨"SueOrSettle", "timesHeld", "(LSueOrSettle$Quarrel;II)I"⟩, 17), (⟨"SueOrSettle", "timesSteady", "(LSueOrSettle$Quarrel;II)I"⟩, 17), (⟨"SueOrSettle", "countPlan", "(I)I"⟩, 17), (⟨"SueOrSettle", "leastWorth", "(LSueOrSettle$Quarrel;III)J"⟩, 17), (⟨"SueOrSettle$Sides", "gets", "(III)I"⟩, 15), (⟨"SueOrSettle$Sides", "isSure", "(II)Z"⟩, 15), (⟨"SueOrSettle$Sides", "isSettled", "()Z"⟩, 15), (⟨"SueOrSettle$Sides", "sureOfOne", "()I"⟩, 15), (⟨"SueOrSettle$Sides", "duelMix", "()I"⟩, 15), (⟨"SueOrSettle$Sides", "lineToStrike", "(III)I"⟩, 15)]
theorem lw_r3 : ∀ q ∈ lw_privs_3, lw_okq q := List.forall_mem_cons.mpr ⟨lw_p32, List.forall_mem_cons.mpr ⟨lw_p33, List.forall_mem_cons.mpr ⟨lw_p34, List.forall_mem_cons.mpr ⟨lw_p35, List.forall_mem_cons.mpr ⟨lw_p36, List.forall_mem_cons.mpr ⟨lw_p37, List.forall_mem_cons.mpr ⟨lw_p38, List.forall_mem_cons.mpr ⟨lw_p39, List.forall_mem_cons.mpr ⟨lw_p40, List.forall_mem_cons.mpr ⟨lw_p41, List.forall_mem_cons.mpr ⟨lw_p42, List.forall_mem_cons.mpr ⟨lw_p43, List.forall_mem_cons.mpr ⟨lw_p44, List.forall_mem_cons.mpr ⟨lw_p45, List.forall_mem_cons.mpr ⟨lw_p46, List.forall_mem_cons.mpr ⟨lw_p47, fun _ h => absurd h List.not_mem_nil⟩⟩⟩⟩⟩⟩⟩⟩⟩⟩⟩⟩⟩⟩⟩⟩
theorem lw_p48 : lw_okq (⟨"SueOrSettle$Sides", "beats", "(IIII)Z"⟩, 15) := ⟨⟨by decide +kernel, by decide +kernel⟩, List.mem_of_getElem? (i := 175) (by decide +kernel), List.mem_of_getElem? (i := 1088) (by decide +kernel), List.mem_of_getElem? (i := 1089) (by decide +kernel)⟩
theorem lw_p49 : lw_okq (⟨"SueOrSettle$Sides", "isMade", "(I)Z"⟩, 15) := ⟨⟨by decide +kernel, by decide +kernel⟩, List.mem_of_getElem? (i := 175) (by decide +kernel), List.mem_of_getElem? (i := 1116) (by decide +kernel), List.mem_of_getElem? (i := 1117) (by decide +kernel)⟩
theorem lw_p50 : lw_okq (⟨"SueOrSettle$Sides", "madeBy", "(II)I"⟩, 15) := ⟨⟨by decide +kernel, by decide +kernel⟩, List.mem_of_getElem? (i := 175) (by decide +kernel), List.mem_of_getElem? (i := 1120) (by decide +kernel), List.mem_of_getElem? (i := 1121) (by decide +kernel)⟩
theorem lw_p51 : lw_okq (⟨"SueOrSettle$Sides", "takenOf", "(II)I"⟩, 15) := ⟨⟨by decide +kernel, by decide +kernel⟩, List.mem_of_getElem? (i := 175) (by decide +kernel), List.mem_of_getElem? (i := 1124) (by decide +kernel), List.mem_of_getElem? (i := 1125) (by decide +kernel)⟩
theorem lw_p52 : lw_okq (⟨"SueOrSettle$Sides", "leastWin", "()I"⟩, 15) := ⟨⟨by decide +kernel, by decide +kernel⟩, List.mem_of_getElem? (i := 175) (by decide +kernel), List.mem_of_getElem? (i := 1128) (by decide +kernel), List.mem_of_getElem? (i := 1129) (by decide +kernel)⟩
theorem lw_p53 : lw_okq (⟨"SueOrSettle$Sides", "doAllKeepTo", "(II)Z"⟩, 15) := ⟨⟨by decide +kernel, by decide +kernel⟩, List.mem_of_getElem? (i := 175) (by decide +kernel), List.mem_of_getElem? (i := 1132) (by decide +kernel), List.mem_of_getElem? (i := 1133) (by decide +kernel)⟩
theorem lw_p54 : lw_okq (⟨"SueOrSettle$Sides", "gained", "(III)I"⟩, 15) := ⟨⟨by decide +kernel, by decide +kernel⟩, List.mem_of_getElem? (i := 175) (by decide +kernel), List.mem_of_getElem? (i := 1136) (by decide +kernel), List.mem_of_getElem? (i := 1137) (by decide +kernel)⟩
theorem lw_p55 : lw_okq (⟨"SueOrSettle", "daysFrom", "(III)I"⟩, 17) := ⟨⟨by decide +kernel, by decide +kernel⟩, List.mem_of_getElem? (i := 18) (by decide +kernel), List.mem_of_getElem? (i := 1197) (by decide +kernel), List.mem_of_getElem? (i := 1198) (by decide +kernel)⟩
theorem lw_p56 : lw_okq (⟨"SueOrSettle", "refusalOfElement", "(II)I"⟩, 17) := ⟨⟨by decide +kernel, by decide +kernel⟩, List.mem_of_getElem? (i := 18) (by decide +kernel), List.mem_of_getElem? (i := 1345) (by decide +kernel), List.mem_of_getElem? (i := 1346) (by decide +kernel)⟩
theorem lw_p57 : lw_okq (⟨"SueOrSettleModel", "isThing", "(I)Z"⟩, 66) := ⟨⟨by decide +kernel, by decide +kernel⟩, List.mem_of_getElem? (i := 1391) (by decide +kernel), List.mem_of_getElem? (i := 1606) (by decide +kernel), List.mem_of_getElem? (i := 1607) (by decide +kernel)⟩
theorem lw_p58 : lw_okq (⟨"SueOrSettleModel", "isWeight", "(III)Z"⟩, 66) := ⟨⟨by decide +kernel, by decide +kernel⟩, List.mem_of_getElem? (i := 1391) (by decide +kernel), List.mem_of_getElem? (i := 1614) (by decide +kernel), List.mem_of_getElem? (i := 1615) (by decide +kernel)⟩
theorem lw_p59 : lw_okq (⟨"SueOrSettleModel", "rowsOf", "(I)I"⟩, 66) := ⟨⟨by decide +kernel, by decide +kernel⟩, List.mem_of_getElem? (i := 1391) (by decide +kernel), List.mem_of_getElem? (i := 1618) (by decide +kernel), List.mem_of_getElem? (i := 1619) (by decide +kernel)⟩
theorem lw_p60 : lw_okq (⟨"SueOrSettleModel", "note", "(IIII)V"⟩, 66) := ⟨⟨by decide +kernel, by decide +kernel⟩, List.mem_of_getElem? (i := 1391) (by decide +kernel), List.mem_of_getElem? (i := 1622) (by decide +kernel), List.mem_of_getElem? (i := 1623) (by decide +kernel)⟩
theorem lw_p61 : lw_okq (⟨"SueOrSettleModel", "bottomNow", "()J"⟩, 66) := ⟨⟨by decide +kernel, by decide +kernel⟩, List.mem_of_getElem? (i := 1391) (by decide +kernel), List.mem_of_getElem? (i := 1630) (by decide +kernel), List.mem_of_getElem? (i := 1631) (by decide +kernel)⟩
theorem lw_p62 : lw_okq (⟨"SueOrSettleModel", "bottomOf", "(I)J"⟩, 66) := ⟨⟨by decide +kernel, by decide +kernel⟩, List.mem_of_getElem? (i := 1391) (by decide +kernel), List.mem_of_getElem? (i := 1634) (by decide +kernel), List.mem_of_getElem? (i := 1635) (by decide +kernel)⟩
theorem lw_p63 : lw_okq (⟨"SueOrSettleModel", "sumOf", "(II)I"⟩, 66) := ⟨⟨by decide +kernel, by decide +kernel⟩, List.mem_of_getElem? (i := 1391) (by decide +kernel), List.mem_of_getElem? (i := 1638) (by decide +kernel), List.mem_of_getElem? (i := 1639) (by decide +kernel)⟩
def lw_privs_4 : List (MethodName × Nat) := [(⟨"SueOrSettle$Sides", "beats", "(IIII)Z"⟩, 15), (⟨"SueOrSettle$Sides", "isMade", "(I)Z"⟩, 15), (⟨"SueOrSettle$Sides", "madeBy", "(II)I"⟩, 15), (⟨"SueOrSettle$Sides", "takenOf", "(II)I"⟩, 15), (⟨"SueOrSettle$Sides", "leastWin", "()I"⟩, 15), (⟨"SueOrSettle$Sides", "doAllKeepTo", "(II)Z"⟩, 15), (⟨"SueOrSettle$Sides", "gained", "(III)I"⟩, 15), (⟨"SueOrSettle", "daysFrom", "(III)I"⟩, 17), (⟨"SueOrSettle", "refusalOfElement", "(II)I"⟩, 17), (⟨"SueOrSettleModel", "isThing", "(I)Z"⟩, 66), (⟨"SueOrSettleModel", "isWeight", "(III)Z"⟩, 66), (⟨"SueOrSettleModel", "rowsOf", "(I)I"⟩, 66), (⟨"SueOrSettleModel", "note", "(IIII)V"⟩, 66), (⟨"SueOrSettleModel", "bottomNow", "()J"⟩, 66), (⟨"SueOrSettleModel", "bottomOf", "(I)J"⟩, 66), (⟨"SueOrSettleModel", "sumOf", "(II)I"⟩, 66)]
theorem lw_r4 : ∀ q ∈ lw_privs_4, lw_okq q := List.forall_mem_cons.mpr ⟨lw_p48, List.forall_mem_cons.mpr ⟨lw_p49, List.forall_mem_cons.mpr ⟨lw_p50, List.forall_mem_cons.mpr ⟨lw_p51, List.forall_mem_cons.mpr ⟨lw_p52, List.forall_mem_cons.mpr ⟨lw_p53, List.forall_mem_cons.mpr ⟨lw_p54, List.forall_mem_cons.mpr ⟨lw_p55, List.forall_mem_cons.mpr ⟨lw_p56, List.forall_mem_cons.mpr ⟨lw_p57, List.forall_mem_cons.mpr ⟨lw_p58, List.forall_mem_cons.mpr ⟨lw_p59, List.forall_mem_cons.mpr ⟨lw_p60, List.forall_mem_cons.mpr ⟨lw_p61, List.forall_mem_cons.mpr ⟨lw_p62, List.forall_mem_cons.mpr ⟨lw_p63, fun _ h => absurd h List.not_mem_nil⟩⟩⟩⟩⟩⟩⟩⟩⟩⟩⟩⟩⟩⟩⟩⟩
theorem lw_p64 : lw_okq (⟨"SueOrSettleModel", "findStates", "()Z"⟩, 66) := ⟨⟨by decide +kernel, by decide +kernel⟩, List.mem_of_getElem? (i := 1391) (by decide +kernel), List.mem_of_getElem? (i := 1652) (by decide +kernel), List.mem_of_getElem? (i := 1653) (by decide +kernel)⟩
theorem lw_p65 : lw_okq (⟨"SueOrSettleModel", "numberOf", "(I)J"⟩, 66) := ⟨⟨by decide +kernel, by decide +kernel⟩, List.mem_of_getElem? (i := 1391) (by decide +kernel), List.mem_of_getElem? (i := 1656) (by decide +kernel), List.mem_of_getElem? (i := 1657) (by decide +kernel)⟩
theorem lw_p66 : lw_okq (⟨"SueOrSettleModel", "areWays", "(I)Z"⟩, 66) := ⟨⟨by decide +kernel, by decide +kernel⟩, List.mem_of_getElem? (i := 1391) (by decide +kernel), List.mem_of_getElem? (i := 1664) (by decide +kernel), List.mem_of_getElem? (i := 1665) (by decide +kernel)⟩
theorem lw_p67 : lw_okq (⟨"SueOrSettleModel", "agrees", "(II)Z"⟩, 66) := ⟨⟨by decide +kernel, by decide +kernel⟩, List.mem_of_getElem? (i := 1391) (by decide +kernel), List.mem_of_getElem? (i := 1668) (by decide +kernel), List.mem_of_getElem? (i := 1669) (by decide +kernel)⟩
theorem lw_p68 : lw_okq (⟨"SueOrSettleModel", "readAll", "()I"⟩, 66) := ⟨⟨by decide +kernel, by decide +kernel⟩, List.mem_of_getElem? (i := 1391) (by decide +kernel), List.mem_of_getElem? (i := 1683) (by decide +kernel), List.mem_of_getElem? (i := 1684) (by decide +kernel)⟩
theorem lw_p69 : lw_okq (⟨"SueOrSettleModel", "byteAt", "(I)I"⟩, 66) := ⟨⟨by decide +kernel, by decide +kernel⟩, List.mem_of_getElem? (i := 1391) (by decide +kernel), List.mem_of_getElem? (i := 1687) (by decide +kernel), List.mem_of_getElem? (i := 1688) (by decide +kernel)⟩
theorem lw_p70 : lw_okq (⟨"SueOrSettleModel", "wrong", "(I)I"⟩, 66) := ⟨⟨by decide +kernel, by decide +kernel⟩, List.mem_of_getElem? (i := 1391) (by decide +kernel), List.mem_of_getElem? (i := 1691) (by decide +kernel), List.mem_of_getElem? (i := 1692) (by decide +kernel)⟩
theorem lw_p71 : lw_okq (⟨"SueOrSettleModel", "readNode", "(IIIZ)I"⟩, 66) := ⟨⟨by decide +kernel, by decide +kernel⟩, List.mem_of_getElem? (i := 1391) (by decide +kernel), List.mem_of_getElem? (i := 1695) (by decide +kernel), List.mem_of_getElem? (i := 1696) (by decide +kernel)⟩
theorem lw_p72 : lw_okq (⟨"SueOrSettleModel", "readChoice", "(IIIZ)I"⟩, 66) := ⟨⟨by decide +kernel, by decide +kernel⟩, List.mem_of_getElem? (i := 1391) (by decide +kernel), List.mem_of_getElem? (i := 1699) (by decide +kernel), List.mem_of_getElem? (i := 1700) (by decide +kernel)⟩
theorem lw_p73 : lw_okq (⟨"SueOrSettleModel", "newNode", "(ZII)I"⟩, 66) := ⟨⟨by decide +kernel, by decide +kernel⟩, List.mem_of_getElem? (i := 1391) (by decide +kernel), List.mem_of_getElem? (i := 1703) (by decide +kernel), List.mem_of_getElem? (i := 1704) (by decide +kernel)⟩
theorem lw_p74 : lw_okq (⟨"SueOrSettleModel", "isDigitAt", "(I)Z"⟩, 66) := ⟨⟨by decide +kernel, by decide +kernel⟩, List.mem_of_getElem? (i := 1391) (by decide +kernel), List.mem_of_getElem? (i := 1707) (by decide +kernel), List.mem_of_getElem? (i := 1708) (by decide +kernel)⟩
theorem lw_p75 : lw_okq (⟨"SueOrSettleModel", "lead", "(III)V"⟩, 66) := ⟨⟨by decide +kernel, by decide +kernel⟩, List.mem_of_getElem? (i := 1391) (by decide +kernel), List.mem_of_getElem? (i := 1711) (by decide +kernel), List.mem_of_getElem? (i := 1712) (by decide +kernel)⟩
theorem lw_p76 : lw_okq (⟨"SueOrSettleModel", "readTurns", "(IIIZ)I"⟩, 66) := ⟨⟨by decide +kernel, by decide +kernel⟩, List.mem_of_getElem? (i := 1391) (by decide +kernel), List.mem_of_getElem? (i := 1715) (by decide +kernel), List.mem_of_getElem? (i := 1716) (by decide +kernel)⟩
theorem lw_p77 : lw_okq (⟨"SueOrSettleModel", "readEnd", "(IZ)I"⟩, 66) := ⟨⟨by decide +kernel, by decide +kernel⟩, List.mem_of_getElem? (i := 1391) (by decide +kernel), List.mem_of_getElem? (i := 1719) (by decide +kernel), List.mem_of_getElem? (i := 1720) (by decide +kernel)⟩
theorem lw_p78 : lw_okq (⟨"SueOrSettleModel", "isQuarrel", "(I)Z"⟩, 66) := ⟨⟨by decide +kernel, by decide +kernel⟩, List.mem_of_getElem? (i := 1391) (by decide +kernel), List.mem_of_getElem? (i := 1727) (by decide +kernel), List.mem_of_getElem? (i := 1728) (by decide +kernel)⟩
theorem lw_p79 : lw_okq (⟨"SueOrSettleModel", "isNode", "(II)Z"⟩, 66) := ⟨⟨by decide +kernel, by decide +kernel⟩, List.mem_of_getElem? (i := 1391) (by decide +kernel), List.mem_of_getElem? (i := 1732) (by decide +kernel), List.mem_of_getElem? (i := 1733) (by decide +kernel)⟩
def lw_privs_5 : List (MethodName × Nat) := [(⟨"SueOrSettleModel", "findStates", "()Z"⟩, 66), (⟨"SueOrSettleModel", "numberOf", "(I)J"⟩, 66), (⟨"SueOrSettleModel", "areWays", "(I)Z"⟩, 66), (⟨"SueOrSettleModel", "agrees", "(II)Z"⟩, 66), (⟨"SueOrSettleModel", "readAll", "()I"⟩, 66), (⟨"SueOrSettleModel", "byteAt", "(I)I"⟩, 66), (⟨"SueOrSettleModel", "wrong", "(I)I"⟩, 66), (⟨"SueOrSettleModel", "readNode", "(IIIZ)I"⟩, 66), (⟨"SueOrSettleModel", "readChoice", "(IIIZ)I"⟩, 66), (⟨"SueOrSettleModel", "newNode", "(ZII)I"⟩, 66), (⟨"SueOrSettleModel", "isDigitAt", "(I)Z"⟩, 66), (⟨"SueOrSettleModel", "lead", "(III)V"⟩, 66), (⟨"SueOrSettleModel", "readTurns", "(IIIZ)I"⟩, 66), (⟨"SueOrSettleModel", "readEnd", "(IZ)I"⟩, 66), (⟨"SueOrSettleModel", "isQuarrel", "(I)Z"⟩, 66), (⟨"SueOrSettleModel", "isNode", "(II)Z"⟩, 66)]
theorem lw_r5 : ∀ q ∈ lw_privs_5, lw_okq q := List.forall_mem_cons.mpr ⟨lw_p64, List.forall_mem_cons.mpr ⟨lw_p65, List.forall_mem_cons.mpr ⟨lw_p66, List.forall_mem_cons.mpr ⟨lw_p67, List.forall_mem_cons.mpr ⟨lw_p68, List.forall_mem_cons.mpr ⟨lw_p69, List.forall_mem_cons.mpr ⟨lw_p70, List.forall_mem_cons.mpr ⟨lw_p71, List.forall_mem_cons.mpr ⟨lw_p72, List.forall_mem_cons.mpr ⟨lw_p73, List.forall_mem_cons.mpr ⟨lw_p74, List.forall_mem_cons.mpr ⟨lw_p75, List.forall_mem_cons.mpr ⟨lw_p76, List.forall_mem_cons.mpr ⟨lw_p77, List.forall_mem_cons.mpr ⟨lw_p78, List.forall_mem_cons.mpr ⟨lw_p79, fun _ h => absurd h List.not_mem_nil⟩⟩⟩⟩⟩⟩⟩⟩⟩⟩⟩⟩⟩⟩⟩⟩
theorem lw_p80 : lw_okq (⟨"SueOrSettleModel", "waysOf", "(I)I"⟩, 66) := ⟨⟨by decide +kernel, by decide +kernel⟩, List.mem_of_getElem? (i := 1391) (by decide +kernel), List.mem_of_getElem? (i := 1736) (by decide +kernel), List.mem_of_getElem? (i := 1737) (by decide +kernel)⟩
theorem lw_p81 : lw_okq (⟨"SueOrSettleModel", "isPlace", "(III)Z"⟩, 66) := ⟨⟨by decide +kernel, by decide +kernel⟩, List.mem_of_getElem? (i := 1391) (by decide +kernel), List.mem_of_getElem? (i := 1744) (by decide +kernel), List.mem_of_getElem? (i := 1745) (by decide +kernel)⟩
theorem lw_p82 : lw_okq (⟨"SueOrSettleModel", "isChoice", "(II)Z"⟩, 66) := ⟨⟨by decide +kernel, by decide +kernel⟩, List.mem_of_getElem? (i := 1391) (by decide +kernel), List.mem_of_getElem? (i := 1748) (by decide +kernel), List.mem_of_getElem? (i := 1749) (by decide +kernel)⟩
theorem lw_p83 : lw_okq (⟨"SueOrSettleModel", "set", "(III)V"⟩, 66) := ⟨⟨by decide +kernel, by decide +kernel⟩, List.mem_of_getElem? (i := 1391) (by decide +kernel), List.mem_of_getElem? (i := 1752) (by decide +kernel), List.mem_of_getElem? (i := 1753) (by decide +kernel)⟩
theorem lw_p84 : lw_okq (⟨"SueOrSettleModel", "isFeeling", "(I)Z"⟩, 66) := ⟨⟨by decide +kernel, by decide +kernel⟩, List.mem_of_getElem? (i := 1391) (by decide +kernel), List.mem_of_getElem? (i := 1776) (by decide +kernel), List.mem_of_getElem? (i := 1777) (by decide +kernel)⟩
theorem lw_p85 : lw_okq (⟨"SueOrSettleModel", "countsBy", "(III)I"⟩, 66) := ⟨⟨by decide +kernel, by decide +kernel⟩, List.mem_of_getElem? (i := 1391) (by decide +kernel), List.mem_of_getElem? (i := 1780) (by decide +kernel), List.mem_of_getElem? (i := 1781) (by decide +kernel)⟩
theorem lw_p86 : lw_okq (⟨"SueOrSettleModel", "feltOf", "(I)I"⟩, 66) := ⟨⟨by decide +kernel, by decide +kernel⟩, List.mem_of_getElem? (i := 1391) (by decide +kernel), List.mem_of_getElem? (i := 1784) (by decide +kernel), List.mem_of_getElem? (i := 1785) (by decide +kernel)⟩
theorem lw_p87 : lw_okq (⟨"SueOrSettleModel", "coinBy", "(I)I"⟩, 66) := ⟨⟨by decide +kernel, by decide +kernel⟩, List.mem_of_getElem? (i := 1391) (by decide +kernel), List.mem_of_getElem? (i := 1788) (by decide +kernel), List.mem_of_getElem? (i := 1789) (by decide +kernel)⟩
theorem lw_p88 : lw_okq (⟨"SueOrSettleModel", "wholeWorth", "(IIIZ)J"⟩, 66) := ⟨⟨by decide +kernel, by decide +kernel⟩, List.mem_of_getElem? (i := 1391) (by decide +kernel), List.mem_of_getElem? (i := 1797) (by decide +kernel), List.mem_of_getElem? (i := 1798) (by decide +kernel)⟩
theorem lw_p89 : lw_okq (⟨"SueOrSettleModel", "begin", "(IIIZ)V"⟩, 66) := ⟨⟨by decide +kernel, by decide +kernel⟩, List.mem_of_getElem? (i := 1391) (by decide +kernel), List.mem_of_getElem? (i := 1801) (by decide +kernel), List.mem_of_getElem? (i := 1802) (by decide +kernel)⟩
theorem lw_p90 : lw_okq (⟨"SueOrSettleModel", "worthOf", "(II)J"⟩, 66) := ⟨⟨by decide +kernel, by decide +kernel⟩, List.mem_of_getElem? (i := 1391) (by decide +kernel), List.mem_of_getElem? (i := 1805) (by decide +kernel), List.mem_of_getElem? (i := 1806) (by decide +kernel)⟩
theorem lw_p91 : lw_okq (⟨"SueOrSettleModel", "knownNumber", "()J"⟩, 66) := ⟨⟨by decide +kernel, by decide +kernel⟩, List.mem_of_getElem? (i := 1391) (by decide +kernel), List.mem_of_getElem? (i := 1809) (by decide +kernel), List.mem_of_getElem? (i := 1810) (by decide +kernel)⟩
theorem lw_p92 : lw_okq (⟨"SueOrSettleModel", "isKnown", "(I)Z"⟩, 66) := ⟨⟨by decide +kernel, by decide +kernel⟩, List.mem_of_getElem? (i := 1391) (by decide +kernel), List.mem_of_getElem? (i := 1813) (by decide +kernel), List.mem_of_getElem? (i := 1814) (by decide +kernel)⟩
theorem lw_p93 : lw_okq (⟨"SueOrSettleModel", "turnsWorth", "(II)J"⟩, 66) := ⟨⟨by decide +kernel, by decide +kernel⟩, List.mem_of_getElem? (i := 1391) (by decide +kernel), List.mem_of_getElem? (i := 1817) (by decide +kernel), List.mem_of_getElem? (i := 1818) (by decide +kernel)⟩
theorem lw_p94 : lw_okq (⟨"SueOrSettleModel", "regrets", "()J"⟩, 66) := ⟨⟨by decide +kernel, by decide +kernel⟩, List.mem_of_getElem? (i := 1391) (by decide +kernel), List.mem_of_getElem? (i := 1821) (by decide +kernel), List.mem_of_getElem? (i := 1822) (by decide +kernel)⟩
theorem lw_p95 : lw_okq (⟨"SueOrSettleModel", "valueIn", "(III)I"⟩, 66) := ⟨⟨by decide +kernel, by decide +kernel⟩, List.mem_of_getElem? (i := 1391) (by decide +kernel), List.mem_of_getElem? (i := 1825) (by decide +kernel), List.mem_of_getElem? (i := 1826) (by decide +kernel)⟩
def lw_privs_6 : List (MethodName × Nat) := [(⟨"SueOrSettleModel", "waysOf", "(I)I"⟩, 66), (⟨"SueOrSettleModel", "isPlace", "(III)Z"⟩, 66), (⟨"SueOrSettleModel", "isChoice", "(II)Z"⟩, 66), (⟨"SueOrSettleModel", "set", "(III)V"⟩, 66), (⟨"SueOrSettleModel", "isFeeling", "(I)Z"⟩, 66), (⟨"SueOrSettleModel", "countsBy", "(III)I"⟩, 66), (⟨"SueOrSettleModel", "feltOf", "(I)I"⟩, 66), (⟨"SueOrSettleModel", "coinBy", "(I)I"⟩, 66), (⟨"SueOrSettleModel", "wholeWorth", "(IIIZ)J"⟩, 66), (⟨"SueOrSettleModel", "begin", "(IIIZ)V"⟩, 66), (⟨"SueOrSettleModel", "worthOf", "(II)J"⟩, 66), (⟨"SueOrSettleModel", "knownNumber", "()J"⟩, 66), (⟨"SueOrSettleModel", "isKnown", "(I)Z"⟩, 66), (⟨"SueOrSettleModel", "turnsWorth", "(II)J"⟩, 66), (⟨"SueOrSettleModel", "regrets", "()J"⟩, 66), (⟨"SueOrSettleModel", "valueIn", "(III)I"⟩, 66)]
theorem lw_r6 : ∀ q ∈ lw_privs_6, lw_okq q := List.forall_mem_cons.mpr ⟨lw_p80, List.forall_mem_cons.mpr ⟨lw_p81, List.forall_mem_cons.mpr ⟨lw_p82, List.forall_mem_cons.mpr ⟨lw_p83, List.forall_mem_cons.mpr ⟨lw_p84, List.forall_mem_cons.mpr ⟨lw_p85, List.forall_mem_cons.mpr ⟨lw_p86, List.forall_mem_cons.mpr ⟨lw_p87, List.forall_mem_cons.mpr ⟨lw_p88, List.forall_mem_cons.mpr ⟨lw_p89, List.forall_mem_cons.mpr ⟨lw_p90, List.forall_mem_cons.mpr ⟨lw_p91, List.forall_mem_cons.mpr ⟨lw_p92, List.forall_mem_cons.mpr ⟨lw_p93, List.forall_mem_cons.mpr ⟨lw_p94, List.forall_mem_cons.mpr ⟨lw_p95, fun _ h => absurd h List.not_mem_nil⟩⟩⟩⟩⟩⟩⟩⟩⟩⟩⟩⟩⟩⟩⟩⟩
theorem lw_p96 : lw_okq (⟨"SueOrSettleModel", "bottomFor", "(I)J"⟩, 66) := ⟨⟨by decide +kernel, by decide +kernel⟩, List.mem_of_getElem? (i := 1391) (by decide +kernel), List.mem_of_getElem? (i := 1829) (by decide +kernel), List.mem_of_getElem? (i := 1830) (by decide +kernel)⟩
theorem lw_p97 : lw_okq (⟨"SueOrSettleModel", "planBest", "(I)V"⟩, 66) := ⟨⟨by decide +kernel, by decide +kernel⟩, List.mem_of_getElem? (i := 1391) (by decide +kernel), List.mem_of_getElem? (i := 1834) (by decide +kernel), List.mem_of_getElem? (i := 1835) (by decide +kernel)⟩
theorem lw_p98 : lw_okq (⟨"SueOrSettleModel", "goesTo", "(II)Z"⟩, 66) := ⟨⟨by decide +kernel, by decide +kernel⟩, List.mem_of_getElem? (i := 1391) (by decide +kernel), List.mem_of_getElem? (i := 1854) (by decide +kernel), List.mem_of_getElem? (i := 1855) (by decide +kernel)⟩
theorem lw_p99 : lw_okq (⟨"SueOrSettleModel", "tellOn", "(II)V"⟩, 66) := ⟨⟨by decide +kernel, by decide +kernel⟩, List.mem_of_getElem? (i := 1391) (by decide +kernel), List.mem_of_getElem? (i := 1862) (by decide +kernel), List.mem_of_getElem? (i := 1863) (by decide +kernel)⟩
theorem lw_p100 : lw_okq (⟨"SueOrSettleModel", "knowingAll", "(I)J"⟩, 66) := ⟨⟨by decide +kernel, by decide +kernel⟩, List.mem_of_getElem? (i := 1391) (by decide +kernel), List.mem_of_getElem? (i := 1870) (by decide +kernel), List.mem_of_getElem? (i := 1871) (by decide +kernel)⟩
theorem lw_p101 : lw_okq (⟨"SueOrSettleModel", "askWorth", "(II)J"⟩, 66) := ⟨⟨by decide +kernel, by decide +kernel⟩, List.mem_of_getElem? (i := 1391) (by decide +kernel), List.mem_of_getElem? (i := 1874) (by decide +kernel), List.mem_of_getElem? (i := 1875) (by decide +kernel)⟩
theorem lw_p102 : lw_okq (⟨"SueOrSettleModel", "bestKnowing", "(III)J"⟩, 66) := ⟨⟨by decide +kernel, by decide +kernel⟩, List.mem_of_getElem? (i := 1391) (by decide +kernel), List.mem_of_getElem? (i := 1878) (by decide +kernel), List.mem_of_getElem? (i := 1879) (by decide +kernel)⟩
theorem lw_p103 : lw_okq (⟨"SueOrSettleModel", "edgeFor", "(IIII)I"⟩, 66) := ⟨⟨by decide +kernel, by decide +kernel⟩, List.mem_of_getElem? (i := 1391) (by decide +kernel), List.mem_of_getElem? (i := 1894) (by decide +kernel), List.mem_of_getElem? (i := 1895) (by decide +kernel)⟩
theorem lw_p104 : lw_okq (⟨"SueOrSettleModel", "firstWay", "(I)I"⟩, 66) := ⟨⟨by decide +kernel, by decide +kernel⟩, List.mem_of_getElem? (i := 1391) (by decide +kernel), List.mem_of_getElem? (i := 1898) (by decide +kernel), List.mem_of_getElem? (i := 1899) (by decide +kernel)⟩
theorem lw_p105 : lw_okq (⟨"SueOrSettleModel", "firstChoice", "(I)I"⟩, 66) := ⟨⟨by decide +kernel, by decide +kernel⟩, List.mem_of_getElem? (i := 1391) (by decide +kernel), List.mem_of_getElem? (i := 1902) (by decide +kernel), List.mem_of_getElem? (i := 1903) (by decide +kernel)⟩
theorem lw_p106 : lw_okq (⟨"SueOrSettleModel", "valueAt", "(II)I"⟩, 66) := ⟨⟨by decide +kernel, by decide +kernel⟩, List.mem_of_getElem? (i := 1391) (by decide +kernel), List.mem_of_getElem? (i := 1906) (by decide +kernel), List.mem_of_getElem? (i := 1907) (by decide +kernel)⟩
theorem lw_p107 : lw_okq (⟨"SueOrSettleModel", "isDoubt", "(III)Z"⟩, 66) := ⟨⟨by decide +kernel, by decide +kernel⟩, List.mem_of_getElem? (i := 1391) (by decide +kernel), List.mem_of_getElem? (i := 1922) (by decide +kernel), List.mem_of_getElem? (i := 1923) (by decide +kernel)⟩
theorem lw_p108 : lw_okq (⟨"SueOrSettleModel", "canDoubt", "(III)Z"⟩, 66) := ⟨⟨by decide +kernel, by decide +kernel⟩, List.mem_of_getElem? (i := 1391) (by decide +kernel), List.mem_of_getElem? (i := 1926) (by decide +kernel), List.mem_of_getElem? (i := 1927) (by decide +kernel)⟩
theorem lw_p109 : lw_okq (⟨"SueOrSettleModel", "holdOf", "(IIII)I"⟩, 66) := ⟨⟨by decide +kernel, by decide +kernel⟩, List.mem_of_getElem? (i := 1391) (by decide +kernel), List.mem_of_getElem? (i := 1930) (by decide +kernel), List.mem_of_getElem? (i := 1931) (by decide +kernel)⟩
theorem lw_p110 : lw_okq (⟨"SueOrSettleModel", "steadyOf", "(IIII)I"⟩, 66) := ⟨⟨by decide +kernel, by decide +kernel⟩, List.mem_of_getElem? (i := 1391) (by decide +kernel), List.mem_of_getElem? (i := 1934) (by decide +kernel), List.mem_of_getElem? (i := 1935) (by decide +kernel)⟩
theorem lw_p111 : lw_okq (⟨"SueOrSettleModel", "isSamePlan", "(III)Z"⟩, 66) := ⟨⟨by decide +kernel, by decide +kernel⟩, List.mem_of_getElem? (i := 1391) (by decide +kernel), List.mem_of_getElem? (i := 1938) (by decide +kernel), List.mem_of_getElem? (i := 1939) (by decide +kernel)⟩
def lw_privs_7 : List (MethodName × Nat) := [(⟨"SueOrSettleModel", "bottomFor", "(I)J"⟩, 66), (⟨"SueOrSettleModel", "planBest", "(I)V"⟩, 66), (⟨"SueOrSettleModel", "goesTo", "(II)Z"⟩, 66), (⟨"SueOrSettleModel", "tellOn", "(II)V"⟩, 66), (⟨"SueOrSettleModel", "knowingAll", "(I)J"⟩, 66), (⟨"SueOrSettleModel", "askWorth", "(II)J"⟩, 66), (⟨"SueOrSettleModel", "bestKnowing", "(III)J"⟩, 66), (⟨"SueOrSettleModel", "edgeFor", "(IIII)I"⟩, 66), (⟨"SueOrSettleModel", "firstWay", "(I)I"⟩, 66), (⟨"SueOrSettleModel", "firstChoice", "(I)I"⟩, 66), (⟨"SueOrSettleModel", "valueAt", "(II)I"⟩, 66), (⟨"SueOrSettleModel", "isDoubt", "(III)Z"⟩, 66), (⟨"SueOrSettleModel", "canDoubt", "(III)Z"⟩, 66), (⟨"SueOrSettleModel", "holdOf", "(IIII)I"⟩, 66), (⟨"SueOrSettleModel", "steadyOf", "(IIII)I"⟩, 66), (⟨"SueOrSettleModel", "isSamePlan", "(III)Z"⟩, 66)]
theorem lw_r7 : ∀ q ∈ lw_privs_7, lw_okq q := List.forall_mem_cons.mpr ⟨lw_p96, List.forall_mem_cons.mpr ⟨lw_p97, List.forall_mem_cons.mpr ⟨lw_p98, List.forall_mem_cons.mpr ⟨lw_p99, List.forall_mem_cons.mpr ⟨lw_p100, List.forall_mem_cons.mpr ⟨lw_p101, List.forall_mem_cons.mpr ⟨lw_p102, List.forall_mem_cons.mpr ⟨lw_p103, List.forall_mem_cons.mpr ⟨lw_p104, List.forall_mem_cons.mpr ⟨lw_p105, List.forall_mem_cons.mpr ⟨lw_p106, List.forall_mem_cons.mpr ⟨lw_p107, List.forall_mem_cons.mpr ⟨lw_p108, List.forall_mem_cons.mpr ⟨lw_p109, List.forall_mem_cons.mpr ⟨lw_p110, List.forall_mem_cons.mpr ⟨lw_p111, fun _ h => absurd h List.not_mem_nil⟩⟩⟩⟩⟩⟩⟩⟩⟩⟩⟩⟩⟩⟩⟩⟩
theorem lw_p112 : lw_okq (⟨"SueOrSettleModel", "isSure", "(II)Z"⟩, 66) := ⟨⟨by decide +kernel, by decide +kernel⟩, List.mem_of_getElem? (i := 1391) (by decide +kernel), List.mem_of_getElem? (i := 1962) (by decide +kernel), List.mem_of_getElem? (i := 1963) (by decide +kernel)⟩
theorem lw_p113 : lw_okq (⟨"SueOrSettleModel", "isStruck", "(ZIII)Z"⟩, 66) := ⟨⟨by decide +kernel, by decide +kernel⟩, List.mem_of_getElem? (i := 1391) (by decide +kernel), List.mem_of_getElem? (i := 1980) (by decide +kernel), List.mem_of_getElem? (i := 1981) (by decide +kernel)⟩
theorem lw_p114 : lw_okq (⟨"SueOrSettleModel", "holdsFor", "(III)Z"⟩, 66) := ⟨⟨by decide +kernel, by decide +kernel⟩, List.mem_of_getElem? (i := 1391) (by decide +kernel), List.mem_of_getElem? (i := 1996) (by decide +kernel), List.mem_of_getElem? (i := 1997) (by decide +kernel)⟩
theorem lw_p115 : lw_okq (⟨"SueOrSettleModel", "getsBy", "(III)I"⟩, 66) := ⟨⟨by decide +kernel, by decide +kernel⟩, List.mem_of_getElem? (i := 1391) (by decide +kernel), List.mem_of_getElem? (i := 2000) (by decide +kernel), List.mem_of_getElem? (i := 2001) (by decide +kernel)⟩
theorem lw_p116 : lw_okq (⟨"SueOrSettleModel", "isToTake", "(III)Z"⟩, 66) := ⟨⟨by decide +kernel, by decide +kernel⟩, List.mem_of_getElem? (i := 1391) (by decide +kernel), List.mem_of_getElem? (i := 2004) (by decide +kernel), List.mem_of_getElem? (i := 2005) (by decide +kernel)⟩
theorem lw_p117 : lw_okq (⟨"SueOrSettleModel", "effortFor", "(II)I"⟩, 66) := ⟨⟨by decide +kernel, by decide +kernel⟩, List.mem_of_getElem? (i := 1391) (by decide +kernel), List.mem_of_getElem? (i := 2023) (by decide +kernel), List.mem_of_getElem? (i := 2024) (by decide +kernel)⟩
theorem lw_p118 : lw_okq (⟨"SueOrSettleModel", "pays", "(II)I"⟩, 66) := ⟨⟨by decide +kernel, by decide +kernel⟩, List.mem_of_getElem? (i := 1391) (by decide +kernel), List.mem_of_getElem? (i := 2058) (by decide +kernel), List.mem_of_getElem? (i := 2059) (by decide +kernel)⟩
theorem lw_p119 : lw_okq (⟨"SueOrSettleModel", "ran", "(I)V"⟩, 66) := ⟨⟨by decide +kernel, by decide +kernel⟩, List.mem_of_getElem? (i := 1391) (by decide +kernel), List.mem_of_getElem? (i := 2062) (by decide +kernel), List.mem_of_getElem? (i := 2063) (by decide +kernel)⟩
theorem lw_p120 : lw_okq (⟨"SueOrSettleModel", "partPays", "(II)I"⟩, 66) := ⟨⟨by decide +kernel, by decide +kernel⟩, List.mem_of_getElem? (i := 1391) (by decide +kernel), List.mem_of_getElem? (i := 2066) (by decide +kernel), List.mem_of_getElem? (i := 2067) (by decide +kernel)⟩
theorem lw_p121 : lw_okq (⟨"SueOrSettleModel", "plainPays", "(II)I"⟩, 66) := ⟨⟨by decide +kernel, by decide +kernel⟩, List.mem_of_getElem? (i := 1391) (by decide +kernel), List.mem_of_getElem? (i := 2070) (by decide +kernel), List.mem_of_getElem? (i := 2071) (by decide +kernel)⟩
theorem lw_p122 : lw_okq (⟨"SueOrSettleModel", "feels", "(II)I"⟩, 66) := ⟨⟨by decide +kernel, by decide +kernel⟩, List.mem_of_getElem? (i := 1391) (by decide +kernel), List.mem_of_getElem? (i := 2074) (by decide +kernel), List.mem_of_getElem? (i := 2075) (by decide +kernel)⟩
theorem lw_p123 : lw_okq (⟨"SueOrSettleModel", "feltFeels", "(II)I"⟩, 66) := ⟨⟨by decide +kernel, by decide +kernel⟩, List.mem_of_getElem? (i := 1391) (by decide +kernel), List.mem_of_getElem? (i := 2078) (by decide +kernel), List.mem_of_getElem? (i := 2079) (by decide +kernel)⟩
theorem lw_p124 : lw_okq (⟨"SueOrSettleModel", "plainFeels", "(II)I"⟩, 66) := ⟨⟨by decide +kernel, by decide +kernel⟩, List.mem_of_getElem? (i := 1391) (by decide +kernel), List.mem_of_getElem? (i := 2082) (by decide +kernel), List.mem_of_getElem? (i := 2083) (by decide +kernel)⟩
theorem lw_p125 : lw_okq (⟨"SueOrSettleModel", "fears", "(II)I"⟩, 66) := ⟨⟨by decide +kernel, by decide +kernel⟩, List.mem_of_getElem? (i := 1391) (by decide +kernel), List.mem_of_getElem? (i := 2086) (by decide +kernel), List.mem_of_getElem? (i := 2087) (by decide +kernel)⟩
theorem lw_p126 : lw_okq (⟨"SueOrSettleModel", "plainFears", "(II)I"⟩, 66) := ⟨⟨by decide +kernel, by decide +kernel⟩, List.mem_of_getElem? (i := 1391) (by decide +kernel), List.mem_of_getElem? (i := 2090) (by decide +kernel), List.mem_of_getElem? (i := 2091) (by decide +kernel)⟩
theorem lw_p127 : lw_okq (⟨"SueOrSettleModel", "tells", "(II)I"⟩, 66) := ⟨⟨by decide +kernel, by decide +kernel⟩, List.mem_of_getElem? (i := 1391) (by decide +kernel), List.mem_of_getElem? (i := 2094) (by decide +kernel), List.mem_of_getElem? (i := 2095) (by decide +kernel)⟩
def lw_privs_8 : List (MethodName × Nat) := [(⟨"SueOrSettleModel", "isSure", "(II)Z"⟩, 66), (⟨"SueOrSettleModel", "isStruck", "(ZIII)Z"⟩, 66), (⟨"SueOrSettleModel", "holdsFor", "(III)Z"⟩, 66), (⟨"SueOrSettleModel", "getsBy", "(III)I"⟩, 66), (⟨"SueOrSettleModel", "isToTake", "(III)Z"⟩, 66), (⟨"SueOrSettleModel", "effortFor", "(II)I"⟩, 66), (⟨"SueOrSettleModel", "pays", "(II)I"⟩, 66), (⟨"SueOrSettleModel", "ran", "(I)V"⟩, 66), (⟨"SueOrSettleModel", "partPays", "(II)I"⟩, 66), (⟨"SueOrSettleModel", "plainPays", "(II)I"⟩, 66), (⟨"SueOrSettleModel", "feels", "(II)I"⟩, 66), (⟨"SueOrSettleModel", "feltFeels", "(II)I"⟩, 66), (⟨"SueOrSettleModel", "plainFeels", "(II)I"⟩, 66), (⟨"SueOrSettleModel", "fears", "(II)I"⟩, 66), (⟨"SueOrSettleModel", "plainFears", "(II)I"⟩, 66), (⟨"SueOrSettleModel", "tells", "(II)I"⟩, 66)]
theorem lw_r8 : ∀ q ∈ lw_privs_8, lw_okq q := List.forall_mem_cons.mpr ⟨lw_p112, List.forall_mem_cons.mpr ⟨lw_p113, List.forall_mem_cons.mpr ⟨lw_p114, List.forall_mem_cons.mpr ⟨lw_p115, List.forall_mem_cons.mpr ⟨lw_p116, List.forall_mem_cons.mpr ⟨lw_p117, List.forall_mem_cons.mpr ⟨lw_p118, List.forall_mem_cons.mpr ⟨lw_p119, List.forall_mem_cons.mpr ⟨lw_p120, List.forall_mem_cons.mpr ⟨lw_p121, List.forall_mem_cons.mpr ⟨lw_p122, List.forall_mem_cons.mpr ⟨lw_p123, List.forall_mem_cons.mpr ⟨lw_p124, List.forall_mem_cons.mpr ⟨lw_p125, List.forall_mem_cons.mpr ⟨lw_p126, List.forall_mem_cons.mpr ⟨lw_p127, fun _ h => absurd h List.not_mem_nil⟩⟩⟩⟩⟩⟩⟩⟩⟩⟩⟩⟩⟩⟩⟩⟩
theorem lw_p128 : lw_okq (⟨"SueOrSettleModel", "plainTells", "(II)I"⟩, 66) := ⟨⟨by decide +kernel, by decide +kernel⟩, List.mem_of_getElem? (i := 1391) (by decide +kernel), List.mem_of_getElem? (i := 2098) (by decide +kernel), List.mem_of_getElem? (i := 2099) (by decide +kernel)⟩
theorem lw_p129 : lw_okq (⟨"SueOrSettleModel", "whyNoPlace", "(II)I"⟩, 66) := ⟨⟨by decide +kernel, by decide +kernel⟩, List.mem_of_getElem? (i := 1391) (by decide +kernel), List.mem_of_getElem? (i := 2122) (by decide +kernel), List.mem_of_getElem? (i := 2123) (by decide +kernel)⟩
def lw_privs_9 : List (MethodName × Nat) := [(⟨"SueOrSettleModel", "plainTells", "(II)I"⟩, 66), (⟨"SueOrSettleModel", "whyNoPlace", "(II)I"⟩, 66)]
theorem lw_r9 : ∀ q ∈ lw_privs_9, lw_okq q := List.forall_mem_cons.mpr ⟨lw_p128, List.forall_mem_cons.mpr ⟨lw_p129, fun _ h => absurd h List.not_mem_nil⟩⟩
def lw_privs : List (MethodName × Nat) := lw_privs_1 ++ (lw_privs_2 ++ (lw_privs_3 ++ (lw_privs_4 ++ (lw_privs_5 ++ (lw_privs_6 ++ (lw_privs_7 ++ (lw_privs_8 ++ (lw_privs_9))))))))
def lw_tbl : List Cond := k2_sels lw_privs ++ tables_1
theorem lw_privs_ok : ∀ q ∈ lw_privs, lw_okq q := by
  show ∀ q ∈ lw_privs_1 ++ (lw_privs_2 ++ (lw_privs_3 ++ (lw_privs_4 ++ (lw_privs_5 ++ (lw_privs_6 ++ (lw_privs_7 ++ (lw_privs_8 ++ (lw_privs_9)))))))), lw_okq q
  exact List.forall_mem_append.mpr ⟨lw_r1, List.forall_mem_append.mpr ⟨lw_r2, List.forall_mem_append.mpr ⟨lw_r3, List.forall_mem_append.mpr ⟨lw_r4, List.forall_mem_append.mpr ⟨lw_r5, List.forall_mem_append.mpr ⟨lw_r6, List.forall_mem_append.mpr ⟨lw_r7, List.forall_mem_append.mpr ⟨lw_r8, lw_r9⟩⟩⟩⟩⟩⟩⟩⟩

theorem goodIn_r {big : List Cond} (ws : List Cond) (ps : List Nat) (hp : ws = ps.filterMap (fun i => big[i]?)) (h : ws.all goodWord = true) : GoodIn big ws := by
  intro w hw
  have h1 := List.all_eq_true.mp h w hw
  rw [hp] at hw
  obtain ⟨i, -, hi⟩ := List.mem_filterMap.mp hw
  have hm : w ∈ big := by first | exact List.mem_of_getElem? hi | exact List.getElem?_mem hi
  exact ⟨hm, good_of_word h1⟩
theorem goodIn_app {big a b : List Cond} (ha : GoodIn big a) (hb : GoodIn big b) : GoodIn big (a ++ b) := fun w h => (List.mem_append.mp h).elim (ha w) (hb w)
theorem goodIn_ca {big a b : List Cond} {c : Cond} (ha : GoodIn big (c :: a)) (hb : GoodIn big b) : GoodIn big (c :: (a ++ b)) := fun w h => (List.mem_cons.mp h).elim (fun e => ha w (List.mem_cons.mpr (Or.inl e))) (fun h => (List.mem_append.mp h).elim (fun h => ha w (List.mem_cons.mpr (Or.inr h))) (hb w))
theorem goodIn_sub {big ws : List Cond} (hm : ∀ w ∈ ws, w ∈ big) (h : ws.all goodWord = true) : GoodIn big ws := fun w hw => ⟨hm w hw, good_of_word (List.all_eq_true.mp h w hw)⟩

def RX0 : String := "SueOrSettle$End"
def TX0 : u_T := fun k => match k with
  | 0 => ("SueOrSettle$End", "sense", "LSueOrSettle$Sense;", true)
  | 1 => ("SueOrSettle$End", "number", "I", true)
  | _ => ("SueOrSettle$End", "part", "I", true)
def tyX0 : Nat → FieldType := fun k => match k with
  | 0 => .object "SueOrSettle$Sense"
  | 1 => .int
  | _ => .int
theorem nmX0 : ∀ a, a < 3 → ∀ b, b < 3 → a ≠ b → (TX0 a).2.1 ≠ (TX0 b).2.1 := by decide +kernel
theorem tyX0_ok : ∀ k, k < 3 → parseFieldDescriptor (TX0 k).2.2.1 = some (tyX0 k) := by decide +kernel
def RX1 : String := "SueOrSettle$Felt"
def TX1 : u_T := fun k => match k with
  | 0 => ("SueOrSettle$End", "sense", "LSueOrSettle$Sense;", true)
  | 1 => ("SueOrSettle$End", "number", "I", true)
  | _ => ("SueOrSettle$End", "part", "I", true)
def tyX1 : Nat → FieldType := fun k => match k with
  | 0 => .object "SueOrSettle$Sense"
  | 1 => .int
  | _ => .int
theorem nmX1 : ∀ a, a < 3 → ∀ b, b < 3 → a ≠ b → (TX1 a).2.1 ≠ (TX1 b).2.1 := by decide +kernel
theorem tyX1_ok : ∀ k, k < 3 → parseFieldDescriptor (TX1 k).2.2.1 = some (tyX1 k) := by decide +kernel
def RX2 : String := "SueOrSettle$Least"
def TX2 : u_T := fun k => match k with
  | 0 => ("SueOrSettle$End", "sense", "LSueOrSettle$Sense;", true)
  | 1 => ("SueOrSettle$End", "number", "I", true)
  | _ => ("SueOrSettle$End", "part", "I", true)
def tyX2 : Nat → FieldType := fun k => match k with
  | 0 => .object "SueOrSettle$Sense"
  | 1 => .int
  | _ => .int
theorem nmX2 : ∀ a, a < 3 → ∀ b, b < 3 → a ≠ b → (TX2 a).2.1 ≠ (TX2 b).2.1 := by decide +kernel
theorem tyX2_ok : ∀ k, k < 3 → parseFieldDescriptor (TX2 k).2.2.1 = some (tyX2 k) := by decide +kernel
def RX3 : String := "SueOrSettle$Part"
def TX3 : u_T := fun k => match k with
  | 0 => ("SueOrSettle$End", "sense", "LSueOrSettle$Sense;", true)
  | 1 => ("SueOrSettle$End", "number", "I", true)
  | _ => ("SueOrSettle$End", "part", "I", true)
def tyX3 : Nat → FieldType := fun k => match k with
  | 0 => .object "SueOrSettle$Sense"
  | 1 => .int
  | _ => .int
theorem nmX3 : ∀ a, a < 3 → ∀ b, b < 3 → a ≠ b → (TX3 a).2.1 ≠ (TX3 b).2.1 := by decide +kernel
theorem tyX3_ok : ∀ k, k < 3 → parseFieldDescriptor (TX3 k).2.2.1 = some (tyX3 k) := by decide +kernel
def RX4 : String := "SueOrSettle$Quarrel"
def TX4 : u_T := fun k => match k with
  | 0 => ("SueOrSettle$Quarrel", "size", "I", false)
  | 1 => ("SueOrSettle$Quarrel", "firstChoice", "I", false)
  | 2 => ("SueOrSettle$Quarrel", "kinds", "[I", true)
  | 3 => ("SueOrSettle$Quarrel", "whats", "[I", true)
  | 4 => ("SueOrSettle$Quarrel", "branches", "[I", true)
  | 5 => ("SueOrSettle$Quarrel", "behind", "[I", true)
  | 6 => ("SueOrSettle$Quarrel", "costs", "[I", true)
  | 7 => ("SueOrSettle$Quarrel", "above", "[I", true)
  | 8 => ("SueOrSettle$Quarrel", "known", "[I", true)
  | 9 => ("SueOrSettle$Quarrel", "judged", "[I", true)
  | 10 => ("SueOrSettle$Quarrel", "picks", "[I", true)
  | 11 => ("SueOrSettle$Quarrel", "paid", "[I", true)
  | 12 => ("SueOrSettle$Quarrel", "worths", "[J", true)
  | _ => ("SueOrSettle$Quarrel", "reached", "[Z", true)
def tyX4 : Nat → FieldType := fun k => match k with
  | 0 => .int
  | 1 => .int
  | 2 => .array .int
  | 3 => .array .int
  | 4 => .array .int
  | 5 => .array .int
  | 6 => .array .int
  | 7 => .array .int
  | 8 => .array .int
  | 9 => .array .int
  | 10 => .array .int
  | 11 => .array .int
  | 12 => .array .long
  | _ => .array .boolean
theorem nmX4 : ∀ a, a < 14 → ∀ b, b < 14 → a ≠ b → (TX4 a).2.1 ≠ (TX4 b).2.1 := by decide +kernel
theorem tyX4_ok : ∀ k, k < 14 → parseFieldDescriptor (TX4 k).2.2.1 = some (tyX4 k) := by decide +kernel
def RX5 : String := "SueOrSettle$Reader"
def TX5 : u_T := fun k => match k with
  | 0 => ("SueOrSettle$Reader", "size", "I", false)
  | 1 => ("SueOrSettle$Reader", "fault", "I", false)
  | 2 => ("SueOrSettle$Reader", "at", "I", false)
  | 3 => ("SueOrSettle$Reader", "nodes", "I", false)
  | 4 => ("SueOrSettle$Reader", "toldCount", "I", false)
  | 5 => ("SueOrSettle$Reader", "tape", "[B", true)
  | 6 => ("SueOrSettle$Reader", "told", "[I", true)
  | 7 => ("SueOrSettle$Reader", "kinds", "[I", true)
  | 8 => ("SueOrSettle$Reader", "whats", "[I", true)
  | 9 => ("SueOrSettle$Reader", "branches", "[I", true)
  | 10 => ("SueOrSettle$Reader", "below", "[I", true)
  | 11 => ("SueOrSettle$Reader", "costs", "[I", true)
  | 12 => ("SueOrSettle$Reader", "turnedIn", "[I", true)
  | 13 => ("SueOrSettle$Reader", "deep", "[I", true)
  | _ => ("SueOrSettle$Reader", "sizes", "[I", true)
def tyX5 : Nat → FieldType := fun k => match k with
  | 0 => .int
  | 1 => .int
  | 2 => .int
  | 3 => .int
  | 4 => .int
  | 5 => .array .byte
  | 6 => .array .int
  | 7 => .array .int
  | 8 => .array .int
  | 9 => .array .int
  | 10 => .array .int
  | 11 => .array .int
  | 12 => .array .int
  | 13 => .array .int
  | _ => .array .int
theorem nmX5 : ∀ a, a < 15 → ∀ b, b < 15 → a ≠ b → (TX5 a).2.1 ≠ (TX5 b).2.1 := by decide +kernel
theorem tyX5_ok : ∀ k, k < 15 → parseFieldDescriptor (TX5 k).2.2.1 = some (tyX5 k) := by decide +kernel
def RX6 : String := "SueOrSettle$Regret"
def TX6 : u_T := fun k => match k with
  | 0 => ("SueOrSettle$End", "sense", "LSueOrSettle$Sense;", true)
  | 1 => ("SueOrSettle$End", "number", "I", true)
  | _ => ("SueOrSettle$End", "part", "I", true)
def tyX6 : Nat → FieldType := fun k => match k with
  | 0 => .object "SueOrSettle$Sense"
  | 1 => .int
  | _ => .int
theorem nmX6 : ∀ a, a < 3 → ∀ b, b < 3 → a ≠ b → (TX6 a).2.1 ≠ (TX6 b).2.1 := by decide +kernel
theorem tyX6_ok : ∀ k, k < 3 → parseFieldDescriptor (TX6 k).2.2.1 = some (tyX6 k) := by decide +kernel
def RX7 : String := "SueOrSettle$Sense"
def TX7 : u_T := fun k => match k with
  | 0 => ("SueOrSettle$Sense", "starts", "[I", true)
  | 1 => ("SueOrSettle$Sense", "rates", "[I", true)
  | 2 => ("SueOrSettle$Sense", "bodies", "[I", true)
  | 3 => ("SueOrSettle$Sense", "told", "I", false)
  | 4 => ("SueOrSettle$Sense", "unlike", "I", false)
  | _ => ("SueOrSettle$Sense", "ran", "I", false)
def tyX7 : Nat → FieldType := fun k => match k with
  | 0 => .array .int
  | 1 => .array .int
  | 2 => .array .int
  | 3 => .int
  | 4 => .int
  | _ => .int
theorem nmX7 : ∀ a, a < 6 → ∀ b, b < 6 → a ≠ b → (TX7 a).2.1 ≠ (TX7 b).2.1 := by decide +kernel
theorem tyX7_ok : ∀ k, k < 6 → parseFieldDescriptor (TX7 k).2.2.1 = some (tyX7 k) := by decide +kernel
def RX8 : String := "SueOrSettle$Shy"
def TX8 : u_T := fun k => match k with
  | 0 => ("SueOrSettle$End", "sense", "LSueOrSettle$Sense;", true)
  | 1 => ("SueOrSettle$End", "number", "I", true)
  | _ => ("SueOrSettle$End", "part", "I", true)
def tyX8 : Nat → FieldType := fun k => match k with
  | 0 => .object "SueOrSettle$Sense"
  | 1 => .int
  | _ => .int
theorem nmX8 : ∀ a, a < 3 → ∀ b, b < 3 → a ≠ b → (TX8 a).2.1 ≠ (TX8 b).2.1 := by decide +kernel
theorem tyX8_ok : ∀ k, k < 3 → parseFieldDescriptor (TX8 k).2.2.1 = some (tyX8 k) := by decide +kernel
def RX9 : String := "SueOrSettle$Sides"
def TX9 : u_T := fun k => match k with
  | 0 => ("SueOrSettle$Sides", "rows", "I", false)
  | 1 => ("SueOrSettle$Sides", "columns", "I", false)
  | 2 => ("SueOrSettle$Sides", "cells", "[I", true)
  | 3 => ("SueOrSettle$Sides", "sortCount", "I", false)
  | 4 => ("SueOrSettle$Sides", "weights", "[I", true)
  | 5 => ("SueOrSettle$Sides", "wins", "[I", true)
  | 6 => ("SueOrSettle$Sides", "courtCosts", "[I", true)
  | 7 => ("SueOrSettle$Sides", "offerCount", "I", false)
  | 8 => ("SueOrSettle$Sides", "offers", "[I", true)
  | 9 => ("SueOrSettle$Sides", "effortCount", "I", false)
  | 10 => ("SueOrSettle$Sides", "effortCosts", "[I", true)
  | 11 => ("SueOrSettle$Sides", "effortChances", "[I", true)
  | 12 => ("SueOrSettle$Sides", "dayOffers", "[I", true)
  | 13 => ("SueOrSettle$Sides", "dayChances", "[I", true)
  | _ => ("SueOrSettle$Sides", "dayCosts", "[I", true)
def tyX9 : Nat → FieldType := fun k => match k with
  | 0 => .int
  | 1 => .int
  | 2 => .array .int
  | 3 => .int
  | 4 => .array .int
  | 5 => .array .int
  | 6 => .array .int
  | 7 => .int
  | 8 => .array .int
  | 9 => .int
  | 10 => .array .int
  | 11 => .array .int
  | 12 => .array .int
  | 13 => .array .int
  | _ => .array .int
theorem nmX9 : ∀ a, a < 15 → ∀ b, b < 15 → a ≠ b → (TX9 a).2.1 ≠ (TX9 b).2.1 := by decide +kernel
theorem tyX9_ok : ∀ k, k < 15 → parseFieldDescriptor (TX9 k).2.2.1 = some (tyX9 k) := by decide +kernel
def RX10 : String := "SueOrSettle$Things"
def TX10 : u_T := fun k => match k with
  | 0 => ("SueOrSettle$Things", "size", "I", false)
  | 1 => ("SueOrSettle$Things", "whole", "J", false)
  | 2 => ("SueOrSettle$Things", "fresh", "Z", false)
  | 3 => ("SueOrSettle$Things", "ways", "[I", true)
  | 4 => ("SueOrSettle$Things", "on", "[I", true)
  | 5 => ("SueOrSettle$Things", "weights", "[I", true)
  | 6 => ("SueOrSettle$Things", "shares", "[J", true)
  | _ => ("SueOrSettle$Things", "masses", "[J", true)
def tyX10 : Nat → FieldType := fun k => match k with
  | 0 => .int
  | 1 => .long
  | 2 => .boolean
  | 3 => .array .int
  | 4 => .array .int
  | 5 => .array .int
  | 6 => .array .long
  | _ => .array .long
theorem nmX10 : ∀ a, a < 8 → ∀ b, b < 8 → a ≠ b → (TX10 a).2.1 ≠ (TX10 b).2.1 := by decide +kernel
theorem tyX10_ok : ∀ k, k < 8 → parseFieldDescriptor (TX10 k).2.2.1 = some (tyX10 k) := by decide +kernel
def RX11 : String := "SueOrSettle"
def TX11 : u_T := fun k => match k with
  | 0 => ("SueOrSettle", "things", "LSueOrSettle$Things;", true)
  | 1 => ("SueOrSettle", "reader", "LSueOrSettle$Reader;", true)
  | 2 => ("SueOrSettle", "quarrels", "[LSueOrSettle$Quarrel;", true)
  | 3 => ("SueOrSettle", "quarrelCount", "I", false)
  | 4 => ("SueOrSettle", "sense", "LSueOrSettle$Sense;", true)
  | 5 => ("SueOrSettle", "coin", "LSueOrSettle$End;", true)
  | 6 => ("SueOrSettle", "feelings", "[LSueOrSettle$End;", true)
  | 7 => ("SueOrSettle", "feelingCount", "I", false)
  | 8 => ("SueOrSettle", "changes", "[I", true)
  | 9 => ("SueOrSettle", "changesDone", "I", false)
  | 10 => ("SueOrSettle", "changesUndone", "I", false)
  | 11 => ("SueOrSettle", "sides", "LSueOrSettle$Sides;", true)
  | 12 => ("SueOrSettle", "shelfHolds", "[I", true)
  | 13 => ("SueOrSettle", "shelfSize", "[I", true)
  | 14 => ("SueOrSettle", "shelfRows", "[J", true)
  | 15 => ("SueOrSettle", "seenPlans", "[J", true)
  | _ => ("SueOrSettle", "seenTimes", "[I", true)
def tyX11 : Nat → FieldType := fun k => match k with
  | 0 => .object "SueOrSettle$Things"
  | 1 => .object "SueOrSettle$Reader"
  | 2 => .array (.object "SueOrSettle$Quarrel")
  | 3 => .int
  | 4 => .object "SueOrSettle$Sense"
  | 5 => .object "SueOrSettle$End"
  | 6 => .array (.object "SueOrSettle$End")
  | 7 => .int
  | 8 => .array .int
  | 9 => .int
  | 10 => .int
  | 11 => .object "SueOrSettle$Sides"
  | 12 => .array .int
  | 13 => .array .int
  | 14 => .array .long
  | 15 => .array .long
  | _ => .array .int
theorem nmX11 : ∀ a, a < 17 → ∀ b, b < 17 → a ≠ b → (TX11 a).2.1 ≠ (TX11 b).2.1 := by decide +kernel
theorem tyX11_ok : ∀ k, k < 17 → parseFieldDescriptor (TX11 k).2.2.1 = some (tyX11 k) := by decide +kernel
def RX12 : String := "SueOrSettleModel"
def TX12 : u_T := fun k => match k with
  | 0 => ("SueOrSettleModel", "code", "I", false)
  | 1 => ("SueOrSettleModel", "things", "I", false)
  | 2 => ("SueOrSettleModel", "wayMany", "[I", true)
  | 3 => ("SueOrSettleModel", "hangsOn", "[I", true)
  | 4 => ("SueOrSettleModel", "weights", "[I", true)
  | 5 => ("SueOrSettleModel", "states", "I", false)
  | 6 => ("SueOrSettleModel", "stateWay", "[I", true)
  | 7 => ("SueOrSettleModel", "numbers", "[J", true)
  | 8 => ("SueOrSettleModel", "bottomIs", "J", false)
  | 9 => ("SueOrSettleModel", "quarrels", "I", false)
  | 10 => ("SueOrSettleModel", "nodeMany", "[I", true)
  | 11 => ("SueOrSettleModel", "kindOf", "[B", true)
  | 12 => ("SueOrSettleModel", "valueOf", "[I", true)
  | 13 => ("SueOrSettleModel", "toNode", "[B", true)
  | 14 => ("SueOrSettleModel", "costOf", "[I", true)
  | 15 => ("SueOrSettleModel", "planOf", "[B", true)
  | 16 => ("SueOrSettleModel", "tape", "[B", true)
  | 17 => ("SueOrSettleModel", "taped", "I", false)
  | 18 => ("SueOrSettleModel", "begins", "[I", true)
  | 19 => ("SueOrSettleModel", "capitals", "I", false)
  | 20 => ("SueOrSettleModel", "fault", "I", false)
  | 21 => ("SueOrSettleModel", "made", "I", false)
  | 22 => ("SueOrSettleModel", "doneMany", "I", false)
  | 23 => ("SueOrSettleModel", "undoneMany", "I", false)
  | 24 => ("SueOrSettleModel", "changeOf", "[I", true)
  | 25 => ("SueOrSettleModel", "changeAt", "[I", true)
  | 26 => ("SueOrSettleModel", "before", "[I", true)
  | 27 => ("SueOrSettleModel", "behind", "[I", true)
  | 28 => ("SueOrSettleModel", "feelings", "I", false)
  | 29 => ("SueOrSettleModel", "kind", "[I", true)
  | 30 => ("SueOrSettleModel", "parts", "[I", true)
  | 31 => ("SueOrSettleModel", "stepMany", "I", false)
  | 32 => ("SueOrSettleModel", "stepFrom", "[I", true)
  | 33 => ("SueOrSettleModel", "stepEach", "[I", true)
  | 34 => ("SueOrSettleModel", "known", "[I", true)
  | 35 => ("SueOrSettleModel", "bestWay", "[B", true)
  | 36 => ("SueOrSettleModel", "quarrelNow", "I", false)
  | 37 => ("SueOrSettleModel", "feelNow", "I", false)
  | 38 => ("SueOrSettleModel", "partNow", "I", false)
  | 39 => ("SueOrSettleModel", "byPlan", "Z", false)
  | 40 => ("SueOrSettleModel", "tellMany", "I", false)
  | 41 => ("SueOrSettleModel", "tellSought", "I", false)
  | 42 => ("SueOrSettleModel", "tellIs", "I", false)
  | 43 => ("SueOrSettleModel", "planBy", "[B", true)
  | 44 => ("SueOrSettleModel", "rows", "I", false)
  | 45 => ("SueOrSettleModel", "columns", "I", false)
  | 46 => ("SueOrSettleModel", "gets", "[I", true)
  | 47 => ("SueOrSettleModel", "sorts", "I", false)
  | 48 => ("SueOrSettleModel", "sortWeight", "[I", true)
  | 49 => ("SueOrSettleModel", "sortWin", "[I", true)
  | 50 => ("SueOrSettleModel", "sortCost", "[I", true)
  | 51 => ("SueOrSettleModel", "offers", "I", false)
  | 52 => ("SueOrSettleModel", "offerSum", "[I", true)
  | 53 => ("SueOrSettleModel", "efforts", "I", false)
  | 54 => ("SueOrSettleModel", "effortCost", "[I", true)
  | 55 => ("SueOrSettleModel", "effortWins", "[I", true)
  | 56 => ("SueOrSettleModel", "dayOffer", "[I", true)
  | 57 => ("SueOrSettleModel", "dayOdds", "[I", true)
  | 58 => ("SueOrSettleModel", "dayCost", "[I", true)
  | 59 => ("SueOrSettleModel", "runWay", "[I", true)
  | 60 => ("SueOrSettleModel", "traces", "I", false)
  | 61 => ("SueOrSettleModel", "traced", "[I", true)
  | 62 => ("SueOrSettleModel", "holds", "[I", true)
  | 63 => ("SueOrSettleModel", "size", "[I", true)
  | 64 => ("SueOrSettleModel", "elements", "[J", true)
  | _ => ("SueOrSettleModel", "shifted", "[J", true)
def tyX12 : Nat → FieldType := fun k => match k with
  | 0 => .int
  | 1 => .int
  | 2 => .array .int
  | 3 => .array .int
  | 4 => .array .int
  | 5 => .int
  | 6 => .array .int
  | 7 => .array .long
  | 8 => .long
  | 9 => .int
  | 10 => .array .int
  | 11 => .array .byte
  | 12 => .array .int
  | 13 => .array .byte
  | 14 => .array .int
  | 15 => .array .byte
  | 16 => .array .byte
  | 17 => .int
  | 18 => .array .int
  | 19 => .int
  | 20 => .int
  | 21 => .int
  | 22 => .int
  | 23 => .int
  | 24 => .array .int
  | 25 => .array .int
  | 26 => .array .int
  | 27 => .array .int
  | 28 => .int
  | 29 => .array .int
  | 30 => .array .int
  | 31 => .int
  | 32 => .array .int
  | 33 => .array .int
  | 34 => .array .int
  | 35 => .array .byte
  | 36 => .int
  | 37 => .int
  | 38 => .int
  | 39 => .boolean
  | 40 => .int
  | 41 => .int
  | 42 => .int
  | 43 => .array .byte
  | 44 => .int
  | 45 => .int
  | 46 => .array .int
  | 47 => .int
  | 48 => .array .int
  | 49 => .array .int
  | 50 => .array .int
  | 51 => .int
  | 52 => .array .int
  | 53 => .int
  | 54 => .array .int
  | 55 => .array .int
  | 56 => .array .int
  | 57 => .array .int
  | 58 => .array .int
  | 59 => .array .int
  | 60 => .int
  | 61 => .array .int
  | 62 => .array .int
  | 63 => .array .int
  | 64 => .array .long
  | _ => .array .long
theorem nmX12 : ∀ a, a < 66 → ∀ b, b < 66 → a ≠ b → (TX12 a).2.1 ≠ (TX12 b).2.1 := by decide +kernel
theorem tyX12_ok : ∀ k, k < 66 → parseFieldDescriptor (TX12 k).2.2.1 = some (tyX12 k) := by decide +kernel
abbrev vwCl : List vw_C := [(RX0, TX0, 3), (RX1, TX1, 3), (RX2, TX2, 3), (RX3, TX3, 3), (RX4, TX4, 14), (RX5, TX5, 15), (RX6, TX6, 3), (RX7, TX7, 6), (RX8, TX8, 3), (RX9, TX9, 15), (RX10, TX10, 8), (RX11, TX11, 17), (RX12, TX12, 66)]
def jNC : List (String × String) := [(RX0, RX1), (RX0, RX2), (RX0, RX3), (RX0, RX6), (RX0, RX8), (RX1, RX2), (RX1, RX3), (RX1, RX6), (RX1, RX8), (RX2, RX1), (RX2, RX3), (RX2, RX6), (RX2, RX8), (RX3, RX1), (RX3, RX2), (RX3, RX6), (RX3, RX8), (RX6, RX2), (RX6, RX3), (RX6, RX8), (RX8, RX1), (RX8, RX2), (RX8, RX6)]
end
section
/-! A SIMPLE MACHINE: values are (0, int), (1, long), (2, reference: -1 null, -2 the script, k the k-th cell made); a heap is its size, each cell's kind and length, each cell's contents. -/
abbrev AV : Type := Nat × Int
abbrev JH : Type := Nat × (Nat → Nat × Nat) × (Nat → Nat → Int)
abbrev JE : Type := Nat × Instr × Nat × List Nat × Int
abbrev JS : Type := List JE × List AV × List AV × JH × Nat × Nat
def w32 (x : Int) : Int := (x + 2147483648) % 4294967296 - 2147483648
def w64 (x : Int) : Int := (x + 9223372036854775808) % 18446744073709551616 - 9223372036854775808
def w16 (x : Int) : Int := (x + 32768) % 65536 - 32768
def w8 (x : Int) : Int := (x + 128) % 256 - 128
def jand (x y : Int) : Int := (Int32.ofInt x &&& Int32.ofInt y).toInt
def jor (x y : Int) : Int := (Int32.ofInt x ||| Int32.ofInt y).toInt
def jxor (x y : Int) : Int := (Int32.ofInt x ^^^ Int32.ofInt y).toInt
def jshl (x y : Int) : Int := (Int32.ofInt x <<< (Int32.ofInt y &&& 31)).toInt
def jshr (x y : Int) : Int := (Int32.ofInt x >>> (Int32.ofInt y &&& 31)).toInt
def jushr (x y : Int) : Int := ((Int32.ofInt x).toUInt32 >>> ((Int32.ofInt y).toUInt32 &&& Int32.toUInt32 31)).toInt32.toInt
def jandL (x y : Int) : Int := (Int64.ofInt x &&& Int64.ofInt y).toInt
def jorL (x y : Int) : Int := (Int64.ofInt x ||| Int64.ofInt y).toInt
def jxorL (x y : Int) : Int := (Int64.ofInt x ^^^ Int64.ofInt y).toInt
def jshlL (x y : Int) : Int := (Int64.ofInt x <<< ((Int32.ofInt y).toInt64 &&& 63)).toInt
def jushrL (x y : Int) : Int := ((Int64.ofInt x).toUInt64 >>> ((Int32.ofInt y).toInt64.toUInt64 &&& Int64.toUInt64 63)).toInt64.toInt
def jcmpL (x y : Int) : Int := if x < y then -1 else if x = y then 0 else 1
/-- what kind a field is: 0 int, 1 long, 2 reference, 3 boolean -/
def jfk (d : String) : Nat := if d = "I" then 0 else if d = "J" then 1 else if d = "Z" then 3 else 2
def jfty (c k : Nat) : Nat := match vwCl[c]? with
  | some q => jfk (q.2.1 k).2.2.1
  | none => 0
def jN (c : Nat) : Nat := match vwCl[c]? with
  | some q => q.2.2
  | none => 0
/-- a kind as it stands on the stack -/
def jsk (t : Nat) : Nat := if t = 3 then 0 else t
/-- arrays: 20 int, 21 long, 22 byte, 23 boolean, 24 Quarrel, 25 End -/
def jak (t : Nat) : Nat := if t = 21 then 1 else if t = 24 ∨ t = 25 then 2 else 0
def jdef (t j : Nat) : Int := if t < 20 then (if jfty t j = 2 then -1 else 0) else if t = 24 ∨ t = 25 then -1 else 0
def jfam (f t : Nat) : Bool := if f = 0 then (t == 0 || t == 1 || t == 2 || t == 3 || t == 6 || t == 8) else t == f
/-- is a body of kind t one of kind u, or under it -/
def jund (t u : Nat) : Bool := t == u || (u == 0 && (t == 1 || t == 2 || t == 3 || t == 6 || t == 8)) || (u == 1 && t == 6) || (u == 3 && t == 8)
def jwr (h : JH) (a i : Nat) (v : Int) : JH := (h.1, h.2.1, fun k j => if k = a ∧ j = i then v else h.2.2 k j)
def jnew (h : JH) (t n : Nat) : JH := (h.1 + 1, fun k => if k = h.1 then (t, n) else h.2.1 k, fun k j => if k = h.1 then jdef t j else h.2.2 k j)
def jcpy (h : JH) (a sp d dp n : Nat) : JH := (h.1, h.2.1, fun k j => if k = d ∧ dp ≤ j ∧ j < dp + n then h.2.2 a (sp + (j - dp)) else h.2.2 k j)
def jfind : List JE → Nat → Option (List JE)
  | [], _ => none
  | e :: r, t => if e.1 = t then some (e :: r) else jfind r t
def jpc : List JE → Nat
  | [] => 0
  | e :: _ => e.1
/-- a long that ends at place k is gone when place k is written -/
def jcl (L : List AV) (k : Nat) : List AV := match k with
  | 0 => L
  | k' + 1 => match L[k']? with
    | some v => if v.1 = 1 then L.set k' (9, 0) else L
    | none => L
def jput (L : List AV) (k : Nat) (v : AV) : List AV := jcl (L.set k v) k
def jput2 (L : List AV) (k : Nat) (v : AV) : List AV := jcl ((L.set k v).set (k + 1) (9, 0)) k
/-- a place of the script, if there is one -/
def jxin (xl : Option Nat) (i : Nat) : Bool := match xl with
  | some m => decide (i < m)
  | none => false
section Helpers
variable (K : List JE) (L S : List AV) (h : JH) (cu su : Nat)
def jpush (v : AV) : Option JS := some (K, L, v :: S, h, cu, su)
def jld (t k : Nat) : Option JS := match L[k]? with
  | some v => if v.1 = t then some (K, L, v :: S, h, cu, su) else none
  | none => none
def jst (t k : Nat) : Option JS := match S with
  | v :: S' => if v.1 = t ∧ k < L.length then some (K, jput L k v, S', h, cu, su) else none
  | [] => none
def jst2 (k : Nat) : Option JS := match S with
  | v :: S' => if v.1 = 1 ∧ k + 1 < L.length then some (K, jput2 L k v, S', h, cu, su) else none
  | [] => none
def jinc (k : Nat) (n : Int) : Option JS := match L[k]? with
  | some v => if v.1 = 0 then some (K, jput L k (0, w32 (v.2 + n)), S, h, cu, su) else none
  | none => none
def jun (t u : Nat) (f : Int → Int) : Option JS := match S with
  | v :: S' => if v.1 = t then some (K, L, (u, f v.2) :: S', h, cu, su) else none
  | [] => none
/-- two operands of kinds t (below) and t' (on top), an answer of kind u -/
def jbin (t t' u : Nat) (f : Int → Int → Int) : Option JS := match S with
  | w :: v :: S' => if v.1 = t ∧ w.1 = t' then some (K, L, (u, f v.2 w.2) :: S', h, cu, su) else none
  | _ => none
def jdiv (t : Nat) (f : Int → Int → Int) : Option JS := match S with
  | w :: v :: S' => if v.1 = t ∧ w.1 = t ∧ w.2 ≠ 0 then some (K, L, (t, f v.2 w.2) :: S', h, cu, su) else none
  | _ => none
def jgo (c : List JE) (t : Nat) (S' : List AV) : Option JS := match jfind c t with
  | some K' => some (K', L, S', h, cu, su)
  | none => none
def jcnd (q : ClassFile.Cond) (x y : Int) : Bool := match q with
  | .eq => decide (x = y)
  | .ne => decide (x ≠ y)
  | .lt => decide (x < y)
  | .ge => decide (y ≤ x)
  | .gt => decide (y < x)
  | .le => decide (x ≤ y)
def jif (c : List JE) (q : ClassFile.Cond) (t : Nat) : Option JS := match S with
  | v :: S' => if v.1 = 0 then (if jcnd q v.2 0 = true then jgo L h cu su c t S' else some (K, L, S', h, cu, su)) else none
  | [] => none
def jicmp (c : List JE) (q : ClassFile.Cond) (t : Nat) : Option JS := match S with
  | w :: v :: S' => if v.1 = 0 ∧ w.1 = 0 then (if jcnd q v.2 w.2 = true then jgo L h cu su c t S' else some (K, L, S', h, cu, su)) else none
  | _ => none
def jnul (c : List JE) (isn : Bool) (t : Nat) : Option JS := match S with
  | v :: S' => if v.1 = 2 then (if decide (v.2 = -1) = isn then jgo L h cu su c t S' else some (K, L, S', h, cu, su)) else none
  | [] => none
def jsw (c : List JE) (lo hi : Int) (ts : List Nat) : Option JS := match S with
  | v :: S' => if v.1 = 0 then (match ts[if v.2 < lo ∨ hi < v.2 then 0 else (v.2 - lo).toNat + 1]? with
    | some t => jgo L h cu su c t S'
    | none => none) else none
  | [] => none
def jgetf (f k : Nat) : Option JS := match S with
  | v :: S' => if v.1 = 2 ∧ 0 ≤ v.2 ∧ v.2.toNat < h.1 ∧ jfam f (h.2.1 v.2.toNat).1 = true then some (K, L, (jsk (jfty f k), h.2.2 v.2.toNat k) :: S', h, cu, su) else none
  | [] => none
def jputf (f k : Nat) : Option JS := match S with
  | w :: v :: S' => if v.1 = 2 ∧ 0 ≤ v.2 ∧ v.2.toNat < h.1 ∧ jfam f (h.2.1 v.2.toNat).1 = true ∧ w.1 = jsk (jfty f k) ∧ (jfty f k = 3 → w.2 = 0 ∨ w.2 = 1) ∧ (w.1 = 2 → w.2 ≠ -2) then some (K, L, S', jwr h v.2.toNat k w.2, cu, su) else none
  | _ => none
def jald (xl : Option Nat) (xs : Nat → Int) (t : Nat) : Option JS := match S with
  | w :: v :: S' => if v.1 = 2 ∧ w.1 = 0 then (if v.2 = -2 then (if t = 20 ∧ 0 ≤ w.2 ∧ jxin xl w.2.toNat = true then some (K, L, (0, xs w.2.toNat) :: S', h, cu, su) else none) else
      (if 0 ≤ v.2 ∧ v.2.toNat < h.1 ∧ (h.2.1 v.2.toNat).1 = t ∧ 0 ≤ w.2 ∧ w.2.toNat < (h.2.1 v.2.toNat).2 then some (K, L, (jak t, h.2.2 v.2.toNat w.2.toNat) :: S', h, cu, su) else none)) else none
  | _ => none
def jast (t : Nat) (f : Int → Int) : Option JS := match S with
  | u :: w :: v :: S' => if v.1 = 2 ∧ w.1 = 0 ∧ u.1 = jak t ∧ 0 ≤ v.2 ∧ v.2.toNat < h.1 ∧ (h.2.1 v.2.toNat).1 = t ∧ 0 ≤ w.2 ∧ w.2.toNat < (h.2.1 v.2.toNat).2 then some (K, L, S', jwr h v.2.toNat w.2.toNat (f u.2), cu, su) else none
  | _ => none
/-- a body is stored in an array of bodies -/
def jasto (t f : Nat) : Option JS := match S with
  | u :: w :: v :: S' => if v.1 = 2 ∧ w.1 = 0 ∧ u.1 = 2 ∧ 0 ≤ v.2 ∧ v.2.toNat < h.1 ∧ (h.2.1 v.2.toNat).1 = t ∧ 0 ≤ w.2 ∧ w.2.toNat < (h.2.1 v.2.toNat).2 ∧ 0 ≤ u.2 ∧ u.2.toNat < h.1 ∧ jfam f (h.2.1 u.2.toNat).1 = true then some (K, L, S', jwr h v.2.toNat w.2.toNat u.2, cu, su) else none
  | _ => none
def jaln (xl : Option Nat) : Option JS := match S with
  | v :: S' => if v.1 = 2 then (if v.2 = -2 then (match xl with
      | some m => some (K, L, (0, (m : Int)) :: S', h, cu, su)
      | none => none) else if 0 ≤ v.2 ∧ v.2.toNat < h.1 ∧ 20 ≤ (h.2.1 v.2.toNat).1 ∧ (h.2.1 v.2.toNat).1 ≤ 25 ∧ (h.2.1 v.2.toNat).2 < 2147483648 then some (K, L, (0, ((h.2.1 v.2.toNat).2 : Int)) :: S', h, cu, su) else none) else none
  | [] => none
def jnewo (c : Nat) : Option JS := some (K, L, (2, (h.1 : Int)) :: S, jnew h c (jN c), cu + 1, su + jN c)
def jnewa (t : Nat) : Option JS := match S with
  | v :: S' => if v.1 = 0 ∧ 0 ≤ v.2 ∧ v.2 < 60000 then some (K, L, (2, (h.1 : Int)) :: S', jnew h t v.2.toNat, cu + 1, su + v.2.toNat) else none
  | [] => none
def jinst (u : Nat) : Option JS := match S with
  | v :: S' => if v.1 = 2 ∧ 0 ≤ v.2 ∧ v.2.toNat < h.1 ∧ jfam 0 (h.2.1 v.2.toNat).1 = true then some (K, L, (0, if jund (h.2.1 v.2.toNat).1 u = true then 1 else 0) :: S', h, cu, su) else none
  | [] => none
def jpop (t : Nat) : Option JS := match S with
  | v :: S' => if jsk v.1 = t then some (K, L, S', h, cu, su) else none
  | [] => none
def jdup : Option JS := match S with
  | v :: S' => if v.1 = 0 ∨ v.1 = 2 then some (K, L, v :: v :: S', h, cu, su) else none
  | [] => none
def jdup2 : Option JS := match S with
  | w :: S' => if w.1 = 1 then some (K, L, w :: w :: S', h, cu, su) else (match S' with
    | v :: S'' => if (v.1 = 0 ∨ v.1 = 2) ∧ (w.1 = 0 ∨ w.1 = 2) then some (K, L, w :: v :: w :: v :: S'', h, cu, su) else none
    | [] => none)
  | [] => none
def jcopy : Option JS := match S with
  | n :: dp :: d :: sp :: a :: S' => if n.1 = 0 ∧ dp.1 = 0 ∧ d.1 = 2 ∧ sp.1 = 0 ∧ a.1 = 2 ∧ 0 ≤ n.2 ∧ 0 ≤ dp.2 ∧ 0 ≤ sp.2 ∧ 0 ≤ a.2 ∧ a.2.toNat < h.1 ∧ 0 ≤ d.2 ∧ d.2.toNat < h.1 ∧ (h.2.1 a.2.toNat).1 = (h.2.1 d.2.toNat).1 ∧ ((h.2.1 a.2.toNat).1 = 20 ∨ (h.2.1 a.2.toNat).1 = 21) ∧
      sp.2.toNat + n.2.toNat ≤ (h.2.1 a.2.toNat).2 ∧ dp.2.toNat + n.2.toNat ≤ (h.2.1 d.2.toNat).2 ∧ (S'.map fun v => if v.1 = 1 then 2 else 1).sum ≤ 8 then some (K, L, S', jcpy h a.2.toNat sp.2.toNat d.2.toNat dp.2.toNat n.2.toNat, cu, su) else none
  | _ => none
def jobji : Option JS := match S with
  | v :: S' => if v.1 = 2 ∧ 0 ≤ v.2 ∧ (S'.map fun v => if v.1 = 1 then 2 else 1).sum ≤ 8 then some (K, L, S', h, cu, su) else none
  | [] => none
end Helpers
def jat (at_ : ArrayType) : Nat := match at_ with
  | .int => 20
  | .long => 21
  | .byte => 22
  | .boolean => 23
  | _ => 99
def jhd (ps : List Nat) : Nat := ps.getD 0 0
/-- an instruction that neither calls nor returns -/
def jstep (xl : Option Nat) (xs : Nat → Int) (c : List JE) : JS → Option JS
  | ([], _) => none
  | ((pc, i, n, ps, z) :: K, L, S, h, cu, su) => match i with
    | .iconst v => jpush K L S h cu su (0, v)
    | .bipush v => jpush K L S h cu su (0, v)
    | .sipush v => jpush K L S h cu su (0, v)
    | .lconst v => jpush K L S h cu su (1, (v.val : Int))
    | .ldc _ => jpush K L S h cu su (0, z)
    | .ldc_w _ => jpush K L S h cu su (0, z)
    | .ldc2_w _ => jpush K L S h cu su (1, z)
    | .aconst_null => jpush K L S h cu su (2, -1)
    | .iload k => jld K L S h cu su 0 k
    | .iload_n k => jld K L S h cu su 0 k.val
    | .lload k => jld K L S h cu su 1 k
    | .lload_n k => jld K L S h cu su 1 k.val
    | .aload k => jld K L S h cu su 2 k
    | .aload_n k => jld K L S h cu su 2 k.val
    | .istore k => jst K L S h cu su 0 k
    | .istore_n k => jst K L S h cu su 0 k.val
    | .astore k => jst K L S h cu su 2 k
    | .astore_n k => jst K L S h cu su 2 k.val
    | .lstore k => jst2 K L S h cu su k
    | .lstore_n k => jst2 K L S h cu su k.val
    | .iinc k v => jinc K L S h cu su k v
    | .pop => jpop K L S h cu su 0
    | .pop2 => jpop K L S h cu su 1
    | .dup => jdup K L S h cu su
    | .dup2 => jdup2 K L S h cu su
    | .iadd => jbin K L S h cu su 0 0 0 (fun x y => w32 (x + y))
    | .isub => jbin K L S h cu su 0 0 0 (fun x y => w32 (x - y))
    | .imul => jbin K L S h cu su 0 0 0 (fun x y => w32 (x * y))
    | .iand => jbin K L S h cu su 0 0 0 jand
    | .ior => jbin K L S h cu su 0 0 0 jor
    | .ixor => jbin K L S h cu su 0 0 0 jxor
    | .ishl => jbin K L S h cu su 0 0 0 jshl
    | .ishr => jbin K L S h cu su 0 0 0 jshr
    | .iushr => jbin K L S h cu su 0 0 0 jushr
    | .idiv => jdiv K L S h cu su 0 (fun x y => w32 (x.tdiv y))
    | .irem => jdiv K L S h cu su 0 (fun x y => x.tmod y)
    | .ineg => jun K L S h cu su 0 0 (fun x => w32 (-x))
    | .ladd => jbin K L S h cu su 1 1 1 (fun x y => w64 (x + y))
    | .lsub => jbin K L S h cu su 1 1 1 (fun x y => w64 (x - y))
    | .lmul => jbin K L S h cu su 1 1 1 (fun x y => w64 (x * y))
    | .land => jbin K L S h cu su 1 1 1 jandL
    | .lor => jbin K L S h cu su 1 1 1 jorL
    | .lxor => jbin K L S h cu su 1 1 1 jxorL
    | .lshl => jbin K L S h cu su 1 0 1 jshlL
    | .lushr => jbin K L S h cu su 1 0 1 jushrL
    | .ldiv => jdiv K L S h cu su 1 (fun x y => w64 (x.tdiv y))
    | .lrem => jdiv K L S h cu su 1 (fun x y => x.tmod y)
    | .lneg => jun K L S h cu su 1 1 (fun x => w64 (-x))
    | .lcmp => jbin K L S h cu su 1 1 0 jcmpL
    | .i2l => jun K L S h cu su 0 1 (fun x => x)
    | .l2i => jun K L S h cu su 1 0 w32
    | .i2b => jun K L S h cu su 0 0 w8
    | .i2s => jun K L S h cu su 0 0 w16
    | .ifCond q _ => jif K L S h cu su c q (jhd ps)
    | .if_icmp q _ => jicmp K L S h cu su c q (jhd ps)
    | .ifnull _ => jnul K L S h cu su c true (jhd ps)
    | .ifnonnull _ => jnul K L S h cu su c false (jhd ps)
    | .goto _ => jgo L h cu su c (jhd ps) S
    | .tableswitch _ lo hi _ => jsw L S h cu su c lo hi ps
    | .getfield _ => jgetf K L S h cu su (ps.getD 0 0) (ps.getD 1 0)
    | .putfield _ => jputf K L S h cu su (ps.getD 0 0) (ps.getD 1 0)
    | .iaload => jald K L S h cu su xl xs 20
    | .laload => jald K L S h cu su xl xs 21
    | .baload => jald K L S h cu su xl xs (jhd ps)
    | .aaload => jald K L S h cu su xl xs (jhd ps)
    | .iastore => jast K L S h cu su 20 (fun x => x)
    | .lastore => jast K L S h cu su 21 (fun x => x)
    | .bastore => if jhd ps = 22 then jast K L S h cu su 22 w8 else if jhd ps = 23 then jast K L S h cu su 23 (fun x => x % 2) else none
    | .aastore => jasto K L S h cu su (ps.getD 0 0) (ps.getD 1 0)
    | .arraylength => jaln K L S h cu su xl
    | .new _ => jnewo K L S h cu su (jhd ps)
    | .newarray a => jnewa K L S h cu su (jat a)
    | .anewarray _ => jnewa K L S h cu su (jhd ps)
    | .invokespecial _ => if jhd ps = 6 then jobji K L S h cu su else none
    | _ => none
/-- what a return gives back -/
def jret : List JE → List AV → Option (Option AV)
  | (pc, i, n, ps, z) :: K, S => match i with
    | .return_ => if S = [] then some none else none
    | .ireturn => (match S with
      | [v] => if v.1 = 0 ∧ (jhd ps = 1 → v.2 = 0 ∨ v.2 = 1) then some (some v) else none
      | _ => none)
    | .lreturn => (match S with
      | [v] => if v.1 = 1 then some (some v) else none
      | _ => none)
    | .areturn => (match S with
      | [v] => if v.1 = 2 then some (some v) else none
      | _ => none)
    | _ => none
  | [], _ => none
end
section
/-! numbers: the simple machine's integers beside the real one's -/
theorem jw32_bmod (z : Int) : w32 z = z.bmod (2 ^ 32) := by
  unfold w32 Int.bmod
  simp only [show ((2 ^ 32 : Nat) : Int) = 4294967296 from rfl]
  split <;> omega
theorem jw64_bmod (z : Int) : w64 z = z.bmod (2 ^ 64) := by
  unfold w64 Int.bmod
  simp only [show ((2 ^ 64 : Nat) : Int) = 18446744073709551616 from rfl]
  split <;> omega
theorem jw16_bmod (z : Int) : w16 z = z.bmod (2 ^ 16) := by
  unfold w16 Int.bmod
  simp only [show ((2 ^ 16 : Nat) : Int) = 65536 from rfl]
  split <;> omega
theorem jw8_bmod (z : Int) : w8 z = z.bmod (2 ^ 8) := by
  unfold w8 Int.bmod
  simp only [show ((2 ^ 8 : Nat) : Int) = 256 from rfl]
  split <;> omega
theorem jw32_in (z : Int) : -2147483648 ≤ w32 z ∧ w32 z < 2147483648 := by unfold w32; omega
theorem jw64_in (z : Int) : -9223372036854775808 ≤ w64 z ∧ w64 z < 9223372036854775808 := by unfold w64; omega
theorem jw16_in (z : Int) : -32768 ≤ w16 z ∧ w16 z < 32768 := by unfold w16; omega
theorem jw8_in (z : Int) : -128 ≤ w8 z ∧ w8 z < 128 := by unfold w8; omega
theorem jw32_id {z : Int} (h1 : -2147483648 ≤ z) (h2 : z < 2147483648) : w32 z = z := by unfold w32; omega
theorem jw64_id {z : Int} (h1 : -9223372036854775808 ≤ z) (h2 : z < 9223372036854775808) : w64 z = z := by unfold w64; omega
theorem j32 {z : Int} (h1 : -2147483648 ≤ z) (h2 : z < 2147483648) : (Int32.ofInt z).toInt = z := Int32.toInt_ofInt_of_le (by simpa using h1) (by simpa using h2)
theorem j64 {z : Int} (h1 : -9223372036854775808 ≤ z) (h2 : z < 9223372036854775808) : (Int64.ofInt z).toInt = z := Int64.toInt_ofInt_of_le (by simpa using h1) (by simpa using h2)
theorem j32w (z : Int) : Int32.ofInt (w32 z) = Int32.ofInt z := by
  rw [jw32_bmod]
  apply Int32.toInt_inj.mp
  rw [Int32.toInt_ofInt, Int32.toInt_ofInt]
  exact Int.bmod_bmod
theorem j64w (z : Int) : Int64.ofInt (w64 z) = Int64.ofInt z := by
  rw [jw64_bmod]
  apply Int64.toInt_inj.mp
  rw [Int64.toInt_ofInt, Int64.toInt_ofInt]
  exact Int.bmod_bmod
theorem j32_add (x y : Int) : Int32.ofInt x + Int32.ofInt y = Int32.ofInt (w32 (x + y)) := by rw [j32w, Int32.ofInt_add]
theorem j32_sub (x y : Int) : Int32.ofInt x - Int32.ofInt y = Int32.ofInt (w32 (x - y)) := by rw [j32w, Int32.ofInt_sub]
theorem j32_mul (x y : Int) : Int32.ofInt x * Int32.ofInt y = Int32.ofInt (w32 (x * y)) := by rw [j32w, Int32.ofInt_mul]
theorem j32_neg (x : Int) : -Int32.ofInt x = Int32.ofInt (w32 (-x)) := by rw [j32w, Int32.ofInt_neg]
theorem j64_add (x y : Int) : Int64.ofInt x + Int64.ofInt y = Int64.ofInt (w64 (x + y)) := by rw [j64w, Int64.ofInt_add]
theorem j64_sub (x y : Int) : Int64.ofInt x - Int64.ofInt y = Int64.ofInt (w64 (x - y)) := by rw [j64w, Int64.ofInt_sub]
theorem j64_mul (x y : Int) : Int64.ofInt x * Int64.ofInt y = Int64.ofInt (w64 (x * y)) := by rw [j64w, Int64.ofInt_mul]
theorem j64_neg (x : Int) : -Int64.ofInt x = Int64.ofInt (w64 (-x)) := by rw [j64w, Int64.ofInt_neg]
theorem j32_div {x y : Int} (hx : -2147483648 ≤ x ∧ x < 2147483648) (hy : -2147483648 ≤ y ∧ y < 2147483648) : Int32.ofInt x / Int32.ofInt y = Int32.ofInt (w32 (x.tdiv y)) := by
  rw [j32w]
  apply Int32.toInt_inj.mp
  rw [Int32.toInt_div, j32 hx.1 hx.2, j32 hy.1 hy.2, Int32.toInt_ofInt]
theorem j64_div {x y : Int} (hx : -9223372036854775808 ≤ x ∧ x < 9223372036854775808) (hy : -9223372036854775808 ≤ y ∧ y < 9223372036854775808) : Int64.ofInt x / Int64.ofInt y = Int64.ofInt (w64 (x.tdiv y)) := by
  rw [j64w]
  apply Int64.toInt_inj.mp
  rw [Int64.toInt_div, j64 hx.1 hx.2, j64 hy.1 hy.2, Int64.toInt_ofInt]
theorem j32_rem {x y : Int} (hx : -2147483648 ≤ x ∧ x < 2147483648) (hy : -2147483648 ≤ y ∧ y < 2147483648) : Int32.ofInt x - Int32.ofInt x / Int32.ofInt y * Int32.ofInt y = Int32.ofInt (x.tmod y) := by
  rw [j32_div hx hy, j32w, ← Int32.ofInt_mul, ← Int32.ofInt_sub]
  congr 1
  have := Int.tdiv_mul_add_tmod x y
  omega
theorem j64_rem {x y : Int} (hx : -9223372036854775808 ≤ x ∧ x < 9223372036854775808) (hy : -9223372036854775808 ≤ y ∧ y < 9223372036854775808) : Int64.ofInt x - Int64.ofInt x / Int64.ofInt y * Int64.ofInt y = Int64.ofInt (x.tmod y) := by
  rw [j64_div hx hy, j64w, ← Int64.ofInt_mul, ← Int64.ofInt_sub]
  congr 1
  have := Int.tdiv_mul_add_tmod x y
  omega
theorem jtmod_abs (x y : Int) (hy : y ≠ 0) : -(y.natAbs : Int) < x.tmod y ∧ x.tmod y < (y.natAbs : Int) ∧ ((0 ≤ x → 0 ≤ x.tmod y) ∧ (x ≤ 0 → x.tmod y ≤ 0)) := by
  rcases Int.le_total 0 x with h0 | h0
  · rw [Int.tmod_eq_emod_of_nonneg h0]
    have h1 := Int.emod_nonneg x hy
    have h2 := Int.emod_lt x hy
    refine ⟨by omega, by omega, fun _ => h1, fun h => ?_⟩
    have : x = 0 := by omega
    subst this
    simp
  · have e : x.tmod y = -((-x).tmod y) := by rw [Int.neg_tmod, Int.neg_neg]
    rw [e, Int.tmod_eq_emod_of_nonneg (by omega)]
    have h1 := Int.emod_nonneg (-x) hy
    have h2 := Int.emod_lt (-x) hy
    refine ⟨by omega, by omega, fun h => ?_, fun _ => by omega⟩
    have : x = 0 := by omega
    subst this
    simp
theorem j32_rem_in {x y : Int} (hy : -2147483648 ≤ y ∧ y < 2147483648) (h0 : y ≠ 0) : -2147483648 ≤ x.tmod y ∧ x.tmod y < 2147483648 := by
  have := jtmod_abs x y h0
  omega
theorem j64_rem_in {x y : Int} (hy : -9223372036854775808 ≤ y ∧ y < 9223372036854775808) (h0 : y ≠ 0) : -9223372036854775808 ≤ x.tmod y ∧ x.tmod y < 9223372036854775808 := by
  have := jtmod_abs x y h0
  omega
theorem j32_lt {x y : Int} (hx : -2147483648 ≤ x ∧ x < 2147483648) (hy : -2147483648 ≤ y ∧ y < 2147483648) : Int32.ofInt x < Int32.ofInt y ↔ x < y := by rw [Int32.lt_iff_toInt_lt, j32 hx.1 hx.2, j32 hy.1 hy.2]
theorem j32_le {x y : Int} (hx : -2147483648 ≤ x ∧ x < 2147483648) (hy : -2147483648 ≤ y ∧ y < 2147483648) : Int32.ofInt x ≤ Int32.ofInt y ↔ x ≤ y := by rw [Int32.le_iff_toInt_le, j32 hx.1 hx.2, j32 hy.1 hy.2]
theorem j32_eq {x y : Int} (hx : -2147483648 ≤ x ∧ x < 2147483648) (hy : -2147483648 ≤ y ∧ y < 2147483648) : Int32.ofInt x = Int32.ofInt y ↔ x = y := by rw [← Int32.toInt_inj, j32 hx.1 hx.2, j32 hy.1 hy.2]
theorem j64_lt {x y : Int} (hx : -9223372036854775808 ≤ x ∧ x < 9223372036854775808) (hy : -9223372036854775808 ≤ y ∧ y < 9223372036854775808) : Int64.ofInt x < Int64.ofInt y ↔ x < y := by rw [Int64.lt_iff_toInt_lt, j64 hx.1 hx.2, j64 hy.1 hy.2]
theorem j64_eq {x y : Int} (hx : -9223372036854775808 ≤ x ∧ x < 9223372036854775808) (hy : -9223372036854775808 ≤ y ∧ y < 9223372036854775808) : Int64.ofInt x = Int64.ofInt y ↔ x = y := by rw [← Int64.toInt_inj, j64 hx.1 hx.2, j64 hy.1 hy.2]
theorem j32_0 : (0 : Int32) = Int32.ofInt 0 := by decide
theorem j64_0 : (0 : Int64) = Int64.ofInt 0 := by decide
theorem j32_in (x : Int32) : -2147483648 ≤ x.toInt ∧ x.toInt < 2147483648 := ⟨by simpa using x.le_toInt, by simpa using x.toInt_lt⟩
theorem j64_in (x : Int64) : -9223372036854775808 ≤ x.toInt ∧ x.toInt < 9223372036854775808 := ⟨by simpa using x.le_toInt, by simpa using x.toInt_lt⟩
theorem j32_64 {x : Int} (h1 : -2147483648 ≤ x) (h2 : x < 2147483648) : (Int32.ofInt x).toInt64 = Int64.ofInt x := by
  apply Int64.toInt_inj.mp
  rw [Int32.toInt_toInt64, j32 h1 h2, j64 (by omega) (by omega)]
theorem j64_32 {x : Int} (h1 : -9223372036854775808 ≤ x) (h2 : x < 9223372036854775808) : (Int64.ofInt x).toInt32 = Int32.ofInt (w32 x) := by
  rw [j32w]
  apply Int32.toInt_inj.mp
  rw [Int64.toInt_toInt32, j64 h1 h2, Int32.toInt_ofInt]
theorem j32_8 {x : Int} (h1 : -2147483648 ≤ x) (h2 : x < 2147483648) : (Int32.ofInt x).toInt8.toInt32 = Int32.ofInt (w8 x) := by
  apply Int32.toInt_inj.mp
  have := jw8_in x
  rw [Int8.toInt_toInt32, Int32.toInt_toInt8, j32 h1 h2, j32 (by omega) (by omega), jw8_bmod]
theorem j32_16 {x : Int} (h1 : -2147483648 ≤ x) (h2 : x < 2147483648) : (Int32.ofInt x).toInt16.toInt32 = Int32.ofInt (w16 x) := by
  apply Int32.toInt_inj.mp
  have := jw16_in x
  rw [Int16.toInt_toInt32, Int32.toInt_toInt16, j32 h1 h2, j32 (by omega) (by omega), jw16_bmod]
theorem j32_clamp {i : Int} (h0 : 0 ≤ i) (h1 : i < 2147483648) : (Int32.ofInt i).toNatClampNeg = i.toNat := by
  show (Int32.ofInt i).toInt.toNat = i.toNat
  rw [j32 (by omega) h1]
theorem j32_vin {i : Int} {n : Nat} (h0 : 0 ≤ i) (h1 : i < 2147483648) (h : i.toNat < n) : vp_in (Int32.ofInt i) n := by
  rintro (a | a)
  · rw [j32_0, j32_lt ⟨by omega, h1⟩ ⟨by omega, by omega⟩] at a
    omega
  · rw [j32_clamp h0 h1] at a
    omega
theorem j32_b8 {v : Int} (h1 : -128 ≤ v) (h2 : v ≤ 127) : (Int8.ofInt v).toInt32 = Int32.ofInt v := by
  apply Int32.toInt_inj.mp
  rw [Int8.toInt_toInt32, Int8.toInt_ofInt, j32 (by omega) (by omega)]
  unfold Int.bmod
  simp only [show ((Int8.size : Nat) : Int) = 256 from rfl]
  split <;> omega
theorem j32_b16 {v : Int} (h1 : -32768 ≤ v) (h2 : v ≤ 32767) : (Int16.ofInt v).toInt32 = Int32.ofInt v := by
  apply Int32.toInt_inj.mp
  rw [Int16.toInt_toInt32, Int16.toInt_ofInt, j32 (by omega) (by omega)]
  unfold Int.bmod
  simp only [show ((Int16.size : Nat) : Int) = 65536 from rfl]
  split <;> omega
theorem j64_cmp {x y : Int} (hx : -9223372036854775808 ≤ x ∧ x < 9223372036854775808) (hy : -9223372036854775808 ≤ y ∧ y < 9223372036854775808) : lg_cmp (Int64.ofInt x) (Int64.ofInt y) = Int32.ofInt (jcmpL x y) := by
  unfold lg_cmp jcmpL
  simp only [gt_iff_lt, j64_lt hy hx, j64_eq hx hy]
  by_cases a : x < y
  · rw [if_neg (by omega), if_neg (by omega), if_pos a]
    decide
  · rw [if_neg a]
    by_cases b : x = y
    · rw [if_neg (by omega), if_pos b, if_pos b]
      decide
    · rw [if_pos (by omega), if_neg b]
      decide
end
section
/-! the simple machine beside the real one -/
def jv (B b : Nat) (v : AV) : Value := match v with
  | (0, i) => .int (Int32.ofInt i)
  | (1, i) => .long (Int64.ofInt i)
  | (_, i) => if i = -1 then .null else if i = -2 then .ref b else .ref (B + i.toNat)
def jok (v : AV) : Prop := (v.1 = 0 ∧ -2147483648 ≤ v.2 ∧ v.2 < 2147483648) ∨ (v.1 = 1 ∧ -9223372036854775808 ≤ v.2 ∧ v.2 < 9223372036854775808) ∨ (v.1 = 2 ∧ -2 ≤ v.2)
theorem jok_i {i : Int} : jok (0, i) ↔ -2147483648 ≤ i ∧ i < 2147483648 := by simp [jok]
theorem jok_l {i : Int} : jok (1, i) ↔ -9223372036854775808 ≤ i ∧ i < 9223372036854775808 := by simp [jok]
theorem jok_a {i : Int} : jok (2, i) ↔ -2 ≤ i := by simp [jok]
theorem jv_i (B b : Nat) (i : Int) : jv B b (0, i) = .int (Int32.ofInt i) := rfl
theorem jv_l (B b : Nat) (i : Int) : jv B b (1, i) = .long (Int64.ofInt i) := rfl
theorem jv_n (B b : Nat) : jv B b (2, -1) = .null := rfl
theorem jv_s (B b : Nat) : jv B b (2, -2) = .ref b := rfl
theorem jv_r (B b : Nat) {i : Int} (h : 0 ≤ i) : jv B b (2, i) = .ref (B + i.toNat) := by
  unfold jv
  simp only
  rw [if_neg (by omega), if_neg (by omega)]
theorem jok_tag {v : AV} (h : jok v) : v.1 = 0 ∨ v.1 = 1 ∨ v.1 = 2 := by
  rcases h with h | h | h
  · exact Or.inl h.1
  · exact Or.inr (Or.inl h.1)
  · exact Or.inr (Or.inr h.1)
theorem jv_cat (B b : Nat) {v : AV} (h : jok v) : (jv B b v).category = if v.1 = 1 then 2 else 1 := by
  obtain ⟨t, i⟩ := v
  rcases jok_tag h with e | e | e <;> simp only at e <;> subst e
  · rfl
  · rfl
  · unfold jv
    simp only
    split
    · rfl
    · split <;> rfl
/-- the locals -/
def jL (B b : Nat) (L : List AV) (ls : Array Slot) : Prop := ls.size = L.length ∧ lv_wf ls ∧ ∀ (i : Nat) (v : AV), L[i]? = some v → v.1 ≤ 2 → ls[i]? = some (.val (jv B b v)) ∧ jok v
def jprs (B b : Nat) (L : List AV) : List (Nat × Value) := (List.range L.length).filterMap fun i => match L[i]? with
  | some v => if v.1 ≤ 2 then some (i, jv B b v) else none
  | none => none
theorem jprs_in {B b : Nat} {L : List AV} {i : Nat} {v : AV} (h : L[i]? = some v) (hv : v.1 ≤ 2) : (i, jv B b v) ∈ jprs B b L := by
  refine List.mem_filterMap.mpr ⟨i, List.mem_range.mpr (List.getElem?_eq_some_iff.mp h).1, ?_⟩
  rw [h]
  simp [hv]
theorem jprs_of {B b : Nat} {L : List AV} {q : Nat × Value} (h : q ∈ jprs B b L) : ∃ v, L[q.1]? = some v ∧ v.1 ≤ 2 ∧ q.2 = jv B b v := by
  obtain ⟨i, -, hi⟩ := List.mem_filterMap.mp h
  cases hl : L[i]? with
  | none => rw [hl] at hi; cases hi
  | some v =>
    rw [hl] at hi
    simp only at hi
    by_cases hv : v.1 ≤ 2
    · rw [if_pos hv] at hi
      cases hi
      exact ⟨v, hl, hv, rfl⟩
    · rw [if_neg hv] at hi
      cases hi
theorem jL.has {B b : Nat} {L : List AV} {ls : Array Slot} (h : jL B b L ls) : lv_has ls L.length (jprs B b L) := by
  refine ⟨h.1, h.2.1, fun q hq => ?_⟩
  obtain ⟨v, h1, h2, h3⟩ := jprs_of hq
  rw [h3]
  exact (h.2.2 _ _ h1 h2).1
theorem jcl_len (L : List AV) (k : Nat) : (jcl L k).length = L.length := by
  unfold jcl
  cases k with
  | zero => rfl
  | succ k' =>
    simp only
    cases L[k']? with
    | none => rfl
    | some v => simp only; split <;> simp
theorem jput_len (L : List AV) (k : Nat) (v : AV) : (jput L k v).length = L.length := by simp [jput, jcl_len]
theorem jput2_len (L : List AV) (k : Nat) (v : AV) : (jput2 L k v).length = L.length := by simp [jput2, jcl_len]
theorem jcl_get {L : List AV} {k j : Nat} {v : AV} (h : (jcl L k)[j]? = some v) (hv : v.1 ≤ 2) : L[j]? = some v ∧ ¬ (j + 1 = k ∧ v.1 = 1) := by
  unfold jcl at h
  cases k with
  | zero => exact ⟨h, by omega⟩
  | succ k' =>
    simp only at h
    cases hl : L[k']? with
    | none =>
      rw [hl] at h
      refine ⟨h, fun q => ?_⟩
      have : j = k' := by omega
      subst this
      rw [hl] at h
      cases h
    | some w =>
      rw [hl] at h
      simp only at h
      by_cases hw : w.1 = 1
      · rw [if_pos hw] at h
        by_cases hj : j = k'
        · subst hj
          rw [List.getElem?_set_self (List.getElem?_eq_some_iff.mp hl).1] at h
          cases h
          simp at hv
        · rw [List.getElem?_set_ne (fun q => hj q.symm)] at h
          exact ⟨h, by omega⟩
      · rw [if_neg hw] at h
        refine ⟨h, fun q => ?_⟩
        have : j = k' := by omega
        subst this
        rw [hl] at h
        cases h
        exact hw q.2
theorem jL.put {B b : Nat} {L : List AV} {ls ls' : Array Slot} {k : Nat} {v : AV} (h : jL B b L ls) (hk : k < L.length) (hv : jok v) (h' : lv_has ls' L.length ((k, jv B b v) :: (jprs B b L).filter (fun q => !(q.1 == k) && !(q.1 + 1 == k && q.2.category == 2)))) : jL B b (jput L k v) ls' := by
  refine ⟨by rw [jput_len]; exact h'.1, h'.2.1, fun j w hj hw => ?_⟩
  obtain ⟨g1, g2⟩ := jcl_get hj hw
  by_cases e : j = k
  · subst e
    rw [List.getElem?_set_self hk] at g1
    cases g1
    exact ⟨h'.2.2 (j, jv B b v) List.mem_cons_self, hv⟩
  · rw [List.getElem?_set_ne (fun q => e q.symm)] at g1
    have ok := (h.2.2 j w g1 hw).2
    refine ⟨h'.2.2 (j, jv B b w) (List.mem_cons_of_mem _ (List.mem_filter.mpr ⟨jprs_in g1 hw, ?_⟩)), ok⟩
    simp only [jv_cat B b ok]
    by_cases e1 : j + 1 = k
    · have : ¬ w.1 = 1 := fun q => g2 ⟨e1, q⟩
      simp [e, this]
    · simp [e, e1]
theorem jL.put2 {B b : Nat} {L : List AV} {ls ls' : Array Slot} {k : Nat} {v : AV} (h : jL B b L ls) (hk : k + 1 < L.length) (hv : jok v) (h' : lv_has ls' L.length ((k, jv B b v) :: (jprs B b L).filter (fun q => !(q.1 == k) && (!(q.1 == k + 1) && !(q.1 + 1 == k && q.2.category == 2))))) : jL B b (jput2 L k v) ls' := by
  refine ⟨by rw [jput2_len]; exact h'.1, h'.2.1, fun j w hj hw => ?_⟩
  obtain ⟨g1, g2⟩ := jcl_get hj hw
  by_cases e2 : j = k + 1
  · subst e2
    rw [List.getElem?_set_self (by simpa using hk)] at g1
    cases g1
    simp at hw
  · rw [List.getElem?_set_ne (fun q => e2 q.symm)] at g1
    by_cases e : j = k
    · subst e
      rw [List.getElem?_set_self (by omega)] at g1
      cases g1
      exact ⟨h'.2.2 (j, jv B b v) List.mem_cons_self, hv⟩
    · rw [List.getElem?_set_ne (fun q => e q.symm)] at g1
      have ok := (h.2.2 j w g1 hw).2
      refine ⟨h'.2.2 (j, jv B b w) (List.mem_cons_of_mem _ (List.mem_filter.mpr ⟨jprs_in g1 hw, ?_⟩)), ok⟩
      simp only [jv_cat B b ok]
      by_cases e1 : j + 1 = k
      · have : ¬ w.1 = 1 := fun q => g2 ⟨e1, q⟩
        simp [e, e2, this]
      · simp [e, e1, e2]
/-- the heap -/
def jfkd (t j : Nat) : Nat := if t < 20 then jsk (jfty t j) else jak t
def jcok (t j : Nat) (x : Int) : Prop := jok (jfkd t j, x) ∧ (t < 20 → jfty t j = 3 → x = 0 ∨ x = 1) ∧ (t = 22 → -128 ≤ x ∧ x ≤ 127) ∧ (t = 23 → x = 0 ∨ x = 1) ∧ (jfkd t j = 2 → x ≠ -2)
def jV (B b t : Nat) (f : Nat → Int) : Nat → Value := fun j => jv B b (jfkd t j, f j)
def jcell (D : va_G) (cA : Nat → ClassId) (B b : Nat) (H : Heap) (k t n : Nat) (f : Nat → Int) : Prop :=
  (∀ j, j < n → jcok t j (f j)) ∧ ((t < 13 ∧ n = jN t ∧ t_OB (B + k) (D.1 t) n (D.2 t) H (jV B b t f)) ∨ (20 ≤ t ∧ t ≤ 25 ∧ H[B + k]? = some (arrV (cA t) n (jV B b t f))))
def jHp (D : va_G) (cA : Nat → ClassId) (B b : Nat) (H : Heap) (h : JH) : Prop := H.size = B + h.1 ∧ ∀ k, k < h.1 → jcell D cA B b H k (h.2.1 k).1 (h.2.1 k).2 (h.2.2 k)
theorem jcell.kept {D : va_G} {cA : Nat → ClassId} {B b : Nat} {H H1 : Heap} {k t n : Nat} {f : Nat → Int} (h : jcell D cA B b H k t n f) (hq : H1[B + k]? = H[B + k]?) : jcell D cA B b H1 k t n f := by
  obtain ⟨h1, h2⟩ := h
  refine ⟨h1, ?_⟩
  rcases h2 with ⟨a, b, c⟩ | ⟨a, b, c⟩
  · exact Or.inl ⟨a, b, c.kept hq⟩
  · exact Or.inr ⟨a, b, by rw [hq]; exact c⟩
def jty (t : Nat) : FieldType := if t = 20 then .int else if t = 21 then .long else if t = 22 then .byte else if t = 23 then .boolean else if t = 24 then .object RX4 else .object RX0
def jisN (w : Cond) : Bool := match w with
  | .methodLinkNest _ _ _ _ => true
  | .castable _ _ => true
  | .declares _ => true
  | _ => false
def jNW : List Cond := lw_tbl.filter jisN
def jTB : List Cond := lw_tbl.filter goodWord
def jK (D : va_G) (cA : Nat → ClassId) (U : State) : Prop := (∀ (k : Nat) (q : vw_C), vwCl[k]? = some q → u_Kn U q.1 q.2.1 q.2.2 (D.1 k) (D.2 k)) ∧ (∀ t, 20 ≤ t → t ≤ 25 → ArrOfT U (cA t) (jty t) ∧ va_RA U (cA t) (jty t)) ∧ (∀ w ∈ jNW, va_Nw w U) ∧ (va_AO RX4 U ∧ va_AO RX0 U) ∧ ∀ q ∈ jNC, va_Nc q.1 q.2 U
theorem jNw_moved {w : Cond} (hw : jisN w = true) {s U : State} (hW : s.WarmedH U.vm) (h : va_Nw w s) : va_Nw w U := by
  cases w <;> simp [jisN] at hw
  all_goals first | exact va_Nw.warmM hW h | exact va_Nw.warmC hW h | exact va_Nw.warmD hW h
theorem jNc_moved {C T : String} {u U : State} (hvm : u.vm.Alike U.vm) (h : va_Nc C T u) : va_Nc C T U := by
  obtain ⟨c, t, h1, h2, h3⟩ := h
  exact ⟨c, t, by rw [hvm.findClass]; exact h1, by rw [hvm.findClass]; exact h2, by rw [hvm.assignable]; exact h3⟩
theorem jK.moved {D : va_G} {cA : Nat → ClassId} {s U : State} (hW : s.WarmedH U.vm) (h : jK D cA s) : jK D cA U :=
  ⟨fun k q hq => u_Kn_moved hW.alike (h.1 k q hq), fun t h1 h2 => ⟨arrOfT_moved hW.alike (h.2.1 t h1 h2).1, (h.2.1 t h1 h2).2.moved hW.alike⟩, fun w hw => jNw_moved (List.mem_filter.mp hw).2 hW (h.2.2.1 w hw), ⟨va_AO.moved hW.alike h.2.2.2.1.1, va_AO.moved hW.alike h.2.2.2.1.2⟩, fun q hq => jNc_moved hW.alike (h.2.2.2.2 q hq)⟩
def jKp (D : va_G) (cA : Nat → ClassId) (B b : Nat) (xl : Option Nat) (xs : Nat → Int) (U : State) (H : Heap) : Prop := jK D cA U ∧ b < B ∧ ∀ n, xl = some n → va_X b n (fun j => Int32.ofInt (xs j)) U H ∧ (∀ j, -2147483648 ≤ xs j ∧ xs j < 2147483648) ∧ n < 2147483648
def jR (D : va_G) (cA : Nat → ClassId) (B b : Nat) (xl : Option Nat) (xs : Nat → Int) (U : State) (H : Heap) (h : JH) : Prop := jHp D cA B b H h ∧ jKp D cA B b xl xs U H
theorem jKp.moved {D : va_G} {cA : Nat → ClassId} {B b : Nat} {xl : Option Nat} {xs : Nat → Int} {s U : State} {H H1 : Heap} (hW : s.WarmedH U.vm) (h : jKp D cA B b xl xs s H) (hq : H1[b]? = H[b]?) : jKp D cA B b xl xs U H1 :=
  ⟨h.1.moved hW, h.2.1, fun n hn => ⟨((h.2.2 n hn).1.kept hq).moved hW.alike, (h.2.2 n hn).2⟩⟩

section JX
variable {p : Program} {l : Launch} {e : Env} {R : Room} {s : State} {m : MethodId} {args : Array Value} {below : List Frame} {meth : Method} {c : Code} {Q : State → Prop} {D : va_G} {cA : Nat → ClassId} {B b : Nat} {xl : Option Nat} {xs : Nat → Int} {cc : ByteArray} {own : String}
/-- the real machine, at a frame that the simple one describes, comes to a state with Q -/
def jXW (p : Program) (l : Launch) (e : Env) (R : Room) (s : State) (m : MethodId) (args : Array Value) (below : List Frame) (meth : Method) (c : Code) (Q : State → Prop) (D : va_G) (cA : Nat → ClassId) (B b : Nat) (pc : Nat) (L S : List AV) (h : JH) (cu su : Nat) : Prop :=
  ∀ (H : Heap) (locs : List Loc) (ls : Array Slot), jHp D cA B b H h → va_S (fun q => B ≤ q) s.heap H locs → jL B b L ls → (∀ v ∈ S, jok v) → W p l e R s m args below meth c H locs cu su Q (F0 m pc ls (S.map (jv B b)))
theorem jms1 {v : AV} {S : List AV} (h : ∀ w ∈ v :: S, jok w) : jok v ∧ ∀ w ∈ S, jok w := ⟨h v List.mem_cons_self, fun w hw => h w (List.mem_cons_of_mem _ hw)⟩
theorem jms2 {v w : AV} {S : List AV} (h : ∀ z ∈ v :: w :: S, jok z) : jok v ∧ jok w ∧ ∀ z ∈ S, jok z := ⟨(jms1 h).1, (jms1 (jms1 h).2).1, (jms1 (jms1 h).2).2⟩
theorem jmc {v : AV} {S : List AV} (h1 : jok v) (h : ∀ w ∈ S, jok w) : ∀ w ∈ v :: S, jok w := fun w hw => (List.mem_cons.mp hw).elim (fun e => e ▸ h1) (h w)

theorem jx_iconst (hx : p.tables.exec = Jvm.exec) (hb : c.code = cc) {pc : Nat} {L S : List AV} {h : JH} {cu su : Nat} {v : Int} (hv : -2147483648 ≤ v ∧ v < 2147483648) (hd : decode cc pc = .ok (.iconst v, 1)) (k : jXW p l e R s m args below meth c Q D cA B b (pc + 1) L ((0, v) :: S) h cu su) : jXW p l e R s m args below meth c Q D cA B b pc L (S) h cu su := by
  intro H locs ls hH hS hL hs
  exact lv_iconst hx hb hd rfl (k H locs ls hH hS hL (jmc (jok_i.mpr hv) hs))

theorem jx_bipush (hx : p.tables.exec = Jvm.exec) (hb : c.code = cc) {pc : Nat} {L S : List AV} {h : JH} {cu su : Nat} {v : Int} (hv : -128 ≤ v ∧ v ≤ 127) (hd : decode cc pc = .ok (.bipush v, 2)) (k : jXW p l e R s m args below meth c Q D cA B b (pc + 2) L ((0, v) :: S) h cu su) : jXW p l e R s m args below meth c Q D cA B b pc L (S) h cu su := by
  intro H locs ls hH hS hL hs
  exact lv_bipush hx hb hd (j32_b8 hv.1 hv.2) (k H locs ls hH hS hL (jmc (jok_i.mpr (by omega)) hs))

theorem jx_sipush (hx : p.tables.exec = Jvm.exec) (hb : c.code = cc) {pc : Nat} {L S : List AV} {h : JH} {cu su : Nat} {v : Int} (hv : -32768 ≤ v ∧ v ≤ 32767) (hd : decode cc pc = .ok (.sipush v, 3)) (k : jXW p l e R s m args below meth c Q D cA B b (pc + 3) L ((0, v) :: S) h cu su) : jXW p l e R s m args below meth c Q D cA B b pc L (S) h cu su := by
  intro H locs ls hH hS hL hs
  exact lv_sipush hx hb hd (j32_b16 hv.1 hv.2) (k H locs ls hH hS hL (jmc (jok_i.mpr (by omega)) hs))

theorem jx_lconst (hx : p.tables.exec = Jvm.exec) (hb : c.code = cc) {pc : Nat} {L S : List AV} {h : JH} {cu su : Nat} {v : Fin 2} (hd : decode cc pc = .ok (.lconst v, 1)) (k : jXW p l e R s m args below meth c Q D cA B b (pc + 1) L ((1, (v.val : Int)) :: S) h cu su) : jXW p l e R s m args below meth c Q D cA B b pc L (S) h cu su := by
  intro H locs ls hH hS hL hs
  have hv := v.isLt
  exact lv_lconst hx hb hd (by rw [← Int64.ofInt_eq_ofNat]) (k H locs ls hH hS hL (jmc (jok_l.mpr (by omega)) hs))

theorem jx_null (hx : p.tables.exec = Jvm.exec) (hb : c.code = cc) {pc : Nat} {L S : List AV} {h : JH} {cu su : Nat}  (hd : decode cc pc = .ok (.aconst_null, 1)) (k : jXW p l e R s m args below meth c Q D cA B b (pc + 1) L ((2, -1) :: S) h cu su) : jXW p l e R s m args below meth c Q D cA B b pc L (S) h cu su := by
  intro H locs ls hH hS hL hs
  exact lv_null hx hb hd (k H locs ls hH hS hL (jmc (jok_a.mpr (by omega)) hs))

theorem jx_ldc (hx : p.tables.exec = Jvm.exec) (hb : c.code = cc) {pc : Nat} {L S : List AV} {h : JH} {cu su : Nat} {x : Nat} {z : Int} {own : String} (ho : s.vm.findClass own = some m.cls) (hw : (Jvm.Cond.constant own x (Int32.ofInt z)).before args s = true) (hv : -2147483648 ≤ z ∧ z < 2147483648) (hd : decode cc pc = .ok (.ldc x, 2)) (k : jXW p l e R s m args below meth c Q D cA B b (pc + 2) L ((0, z) :: S) h cu su) : jXW p l e R s m args below meth c Q D cA B b pc L (S) h cu su := by
  intro H locs ls hH hS hL hs
  exact lv_ldc hx hb ho hw hd (k H locs ls hH hS hL (jmc (jok_i.mpr hv) hs))

theorem jx_ldcw (hx : p.tables.exec = Jvm.exec) (hb : c.code = cc) {pc : Nat} {L S : List AV} {h : JH} {cu su : Nat} {x : Nat} {z : Int} {own : String} (ho : s.vm.findClass own = some m.cls) (hw : (Jvm.Cond.constant own x (Int32.ofInt z)).before args s = true) (hv : -2147483648 ≤ z ∧ z < 2147483648) (hd : decode cc pc = .ok (.ldc_w x, 3)) (k : jXW p l e R s m args below meth c Q D cA B b (pc + 3) L ((0, z) :: S) h cu su) : jXW p l e R s m args below meth c Q D cA B b pc L (S) h cu su := by
  intro H locs ls hH hS hL hs
  exact lv_ldcw hx hb ho hw hd (k H locs ls hH hS hL (jmc (jok_i.mpr hv) hs))

theorem jx_ldc2 (hx : p.tables.exec = Jvm.exec) (hb : c.code = cc) {pc : Nat} {L S : List AV} {h : JH} {cu su : Nat} {x : Nat} {z : Int} {own : String} (ho : s.vm.findClass own = some m.cls) (hw : (Jvm.Cond.constantLong own x (Int64.ofInt z)).before args s = true) (hv : -9223372036854775808 ≤ z ∧ z < 9223372036854775808) (hd : decode cc pc = .ok (.ldc2_w x, 3)) (k : jXW p l e R s m args below meth c Q D cA B b (pc + 3) L ((1, z) :: S) h cu su) : jXW p l e R s m args below meth c Q D cA B b pc L (S) h cu su := by
  intro H locs ls hH hS hL hs
  exact lv_ldc2 hx hb ho hw hd (k H locs ls hH hS hL (jmc (jok_l.mpr hv) hs))

theorem jx_iload (hx : p.tables.exec = Jvm.exec) (hb : c.code = cc) {pc : Nat} {L S : List AV} {h : JH} {cu su : Nat} {i : Nat} {v : Int} (hv : L[i]? = some (0, v)) (hd : decode cc pc = .ok (.iload i, 2)) (k : jXW p l e R s m args below meth c Q D cA B b (pc + 2) L ((0, v) :: S) h cu su) : jXW p l e R s m args below meth c Q D cA B b pc L (S) h cu su := by
  intro H locs ls hH hS hL hs
  obtain ⟨g1, g2⟩ := hL.2.2 _ _ hv (by simp)
  exact lv_iload hx hb hd g1 (k H locs ls hH hS hL (jmc g2 hs))

theorem jx_lload (hx : p.tables.exec = Jvm.exec) (hb : c.code = cc) {pc : Nat} {L S : List AV} {h : JH} {cu su : Nat} {i : Nat} {v : Int} (hv : L[i]? = some (1, v)) (hd : decode cc pc = .ok (.lload i, 2)) (k : jXW p l e R s m args below meth c Q D cA B b (pc + 2) L ((1, v) :: S) h cu su) : jXW p l e R s m args below meth c Q D cA B b pc L (S) h cu su := by
  intro H locs ls hH hS hL hs
  obtain ⟨g1, g2⟩ := hL.2.2 _ _ hv (by simp)
  exact lv_lload hx hb hd g1 (k H locs ls hH hS hL (jmc g2 hs))

theorem jx_iload_n (hx : p.tables.exec = Jvm.exec) (hb : c.code = cc) {pc : Nat} {L S : List AV} {h : JH} {cu su : Nat} {i : Fin 4} {v : Int} (hv : L[i.val]? = some (0, v)) (hd : decode cc pc = .ok (.iload_n i, 1)) (k : jXW p l e R s m args below meth c Q D cA B b (pc + 1) L ((0, v) :: S) h cu su) : jXW p l e R s m args below meth c Q D cA B b pc L (S) h cu su := by
  intro H locs ls hH hS hL hs
  obtain ⟨g1, g2⟩ := hL.2.2 _ _ hv (by simp)
  exact lv_iload_n hx hb hd rfl g1 (k H locs ls hH hS hL (jmc g2 hs))

theorem jx_lload_n (hx : p.tables.exec = Jvm.exec) (hb : c.code = cc) {pc : Nat} {L S : List AV} {h : JH} {cu su : Nat} {i : Fin 4} {v : Int} (hv : L[i.val]? = some (1, v)) (hd : decode cc pc = .ok (.lload_n i, 1)) (k : jXW p l e R s m args below meth c Q D cA B b (pc + 1) L ((1, v) :: S) h cu su) : jXW p l e R s m args below meth c Q D cA B b pc L (S) h cu su := by
  intro H locs ls hH hS hL hs
  obtain ⟨g1, g2⟩ := hL.2.2 _ _ hv (by simp)
  exact lv_lload_n hx hb hd rfl g1 (k H locs ls hH hS hL (jmc g2 hs))

theorem jx_aload (hx : p.tables.exec = Jvm.exec) (hb : c.code = cc) {pc : Nat} {L S : List AV} {h : JH} {cu su : Nat} {i : Nat} {v : Int} (hv : L[i]? = some (2, v)) (hd : decode cc pc = .ok (.aload i, 2)) (k : jXW p l e R s m args below meth c Q D cA B b (pc + 2) L ((2, v) :: S) h cu su) : jXW p l e R s m args below meth c Q D cA B b pc L (S) h cu su := by
  intro H locs ls hH hS hL hs
  obtain ⟨g1, g2⟩ := hL.2.2 _ _ hv (by simp)
  have hk := k H locs ls hH hS hL (jmc g2 hs)
  rcases (show v = -1 ∨ v = -2 ∨ 0 ≤ v by have := jok_a.mp g2; omega) with e | e | e
  · subst e
    exact lv_aloadN hx hb hd g1 hk
  · subst e
    exact lv_aload hx hb hd g1 hk
  · rw [jv_r B b e] at g1
    refine lv_aload hx hb hd g1 ?_
    rw [List.map_cons, jv_r B b e] at hk
    exact hk

theorem jx_aload_n (hx : p.tables.exec = Jvm.exec) (hb : c.code = cc) {pc : Nat} {L S : List AV} {h : JH} {cu su : Nat} {i : Fin 4} {v : Int} (hv : L[i.val]? = some (2, v)) (hd : decode cc pc = .ok (.aload_n i, 1)) (k : jXW p l e R s m args below meth c Q D cA B b (pc + 1) L ((2, v) :: S) h cu su) : jXW p l e R s m args below meth c Q D cA B b pc L (S) h cu su := by
  intro H locs ls hH hS hL hs
  obtain ⟨g1, g2⟩ := hL.2.2 _ _ hv (by simp)
  have hk := k H locs ls hH hS hL (jmc g2 hs)
  rcases (show v = -1 ∨ v = -2 ∨ 0 ≤ v by have := jok_a.mp g2; omega) with e | e | e
  · subst e
    exact lv_aload_nN hx hb hd rfl g1 hk
  · subst e
    exact lv_aload_n hx hb hd rfl g1 hk
  · rw [jv_r B b e] at g1
    refine lv_aload_n hx hb hd rfl g1 ?_
    rw [List.map_cons, jv_r B b e] at hk
    exact hk

theorem jx_istore (hx : p.tables.exec = Jvm.exec) (hb : c.code = cc) {pc : Nat} {L S : List AV} {h : JH} {cu su : Nat} {i : Nat} {v : Int} (hi : i < L.length) (hd : decode cc pc = .ok (.istore i, 2)) (k : jXW p l e R s m args below meth c Q D cA B b (pc + 2) (jput L i (0, v)) S h cu su) : jXW p l e R s m args below meth c Q D cA B b pc L ((0, v) :: S) h cu su := by
  intro H locs ls hH hS hL hs
  obtain ⟨g1, g2⟩ := jms1 hs
  exact lv_istore hx hb hd hL.has hi rfl (fun ls' hl => k H locs ls' hH hS (hL.put hi g1 hl) g2)

theorem jx_istore_n (hx : p.tables.exec = Jvm.exec) (hb : c.code = cc) {pc : Nat} {L S : List AV} {h : JH} {cu su : Nat} {i : Fin 4} {v : Int} (hi : i.val < L.length) (hd : decode cc pc = .ok (.istore_n i, 1)) (k : jXW p l e R s m args below meth c Q D cA B b (pc + 1) (jput L i.val (0, v)) S h cu su) : jXW p l e R s m args below meth c Q D cA B b pc L ((0, v) :: S) h cu su := by
  intro H locs ls hH hS hL hs
  obtain ⟨g1, g2⟩ := jms1 hs
  exact lv_istore_n hx hb hd rfl hL.has hi rfl (fun ls' hl => k H locs ls' hH hS (hL.put hi g1 hl) g2)

theorem jx_lstore (hx : p.tables.exec = Jvm.exec) (hb : c.code = cc) {pc : Nat} {L S : List AV} {h : JH} {cu su : Nat} {i : Nat} {v : Int} (hi : i + 1 < L.length) (hd : decode cc pc = .ok (.lstore i, 2)) (k : jXW p l e R s m args below meth c Q D cA B b (pc + 2) (jput2 L i (1, v)) S h cu su) : jXW p l e R s m args below meth c Q D cA B b pc L ((1, v) :: S) h cu su := by
  intro H locs ls hH hS hL hs
  obtain ⟨g1, g2⟩ := jms1 hs
  exact lv_lstore hx hb hd hL.has hi rfl (fun ls' hl => k H locs ls' hH hS (hL.put2 hi g1 hl) g2)

theorem jx_lstore_n (hx : p.tables.exec = Jvm.exec) (hb : c.code = cc) {pc : Nat} {L S : List AV} {h : JH} {cu su : Nat} {i : Fin 4} {v : Int} (hi : i.val + 1 < L.length) (hd : decode cc pc = .ok (.lstore_n i, 1)) (k : jXW p l e R s m args below meth c Q D cA B b (pc + 1) (jput2 L i.val (1, v)) S h cu su) : jXW p l e R s m args below meth c Q D cA B b pc L ((1, v) :: S) h cu su := by
  intro H locs ls hH hS hL hs
  obtain ⟨g1, g2⟩ := jms1 hs
  exact lv_lstore_n hx hb hd rfl hL.has hi rfl (fun ls' hl => k H locs ls' hH hS (hL.put2 hi g1 hl) g2)

theorem jx_astore (hx : p.tables.exec = Jvm.exec) (hb : c.code = cc) {pc : Nat} {L S : List AV} {h : JH} {cu su : Nat} {i : Nat} {v : Int} (hi : i < L.length) (hd : decode cc pc = .ok (.astore i, 2)) (k : jXW p l e R s m args below meth c Q D cA B b (pc + 2) (jput L i (2, v)) S h cu su) : jXW p l e R s m args below meth c Q D cA B b pc L ((2, v) :: S) h cu su := by
  intro H locs ls hH hS hL hs
  obtain ⟨g1, g2⟩ := jms1 hs
  rcases (show v = -1 ∨ v = -2 ∨ 0 ≤ v by have := jok_a.mp g1; omega) with e | e | e
  · subst e
    exact lv_astoreN hx hb hd hL.has hi rfl (fun ls' hl => k H locs ls' hH hS (hL.put hi g1 hl) g2)
  · subst e
    exact lv_astore hx hb hd hL.has hi rfl (fun ls' hl => k H locs ls' hH hS (hL.put hi g1 hl) g2)
  · rw [List.map_cons, jv_r B b e]
    exact lv_astore hx hb hd hL.has hi rfl (fun ls' hl => k H locs ls' hH hS (hL.put hi g1 (by rw [jv_r B b e]; exact hl)) g2)

theorem jx_astore_n (hx : p.tables.exec = Jvm.exec) (hb : c.code = cc) {pc : Nat} {L S : List AV} {h : JH} {cu su : Nat} {i : Fin 4} {v : Int} (hi : i.val < L.length) (hd : decode cc pc = .ok (.astore_n i, 1)) (k : jXW p l e R s m args below meth c Q D cA B b (pc + 1) (jput L i.val (2, v)) S h cu su) : jXW p l e R s m args below meth c Q D cA B b pc L ((2, v) :: S) h cu su := by
  intro H locs ls hH hS hL hs
  obtain ⟨g1, g2⟩ := jms1 hs
  rcases (show v = -1 ∨ v = -2 ∨ 0 ≤ v by have := jok_a.mp g1; omega) with e | e | e
  · subst e
    exact lv_astore_nN hx hb hd rfl hL.has hi rfl (fun ls' hl => k H locs ls' hH hS (hL.put hi g1 hl) g2)
  · subst e
    exact lv_astore_n hx hb hd rfl hL.has hi rfl (fun ls' hl => k H locs ls' hH hS (hL.put hi g1 hl) g2)
  · rw [List.map_cons, jv_r B b e]
    exact lv_astore_n hx hb hd rfl hL.has hi rfl (fun ls' hl => k H locs ls' hH hS (hL.put hi g1 (by rw [jv_r B b e]; exact hl)) g2)

theorem jx_iinc (hx : p.tables.exec = Jvm.exec) (hb : c.code = cc) {pc : Nat} {L S : List AV} {h : JH} {cu su : Nat} {i : Nat} {n v : Int} (hv : L[i]? = some (0, v)) (hd : decode cc pc = .ok (.iinc i n, 3)) (k : jXW p l e R s m args below meth c Q D cA B b (pc + 3) (jput L i (0, w32 (v + n))) S h cu su) : jXW p l e R s m args below meth c Q D cA B b pc L S h cu su := by
  intro H locs ls hH hS hL hs
  have hi : i < L.length := (List.getElem?_eq_some_iff.mp hv).1
  obtain ⟨k0, hk0⟩ := List.getElem?_of_mem (jprs_in (B := B) (b := b) hv (by simp))
  exact lv_iinc (v := Int32.ofInt (w32 (v + n))) hx hb hd hL.has hk0 (by rw [j32_add]) hi rfl (fun ls' hl => k H locs ls' hH hS (hL.put hi (jok_i.mpr (jw32_in _)) hl) hs)

theorem jx_iadd (hx : p.tables.exec = Jvm.exec) (hb : c.code = cc) {pc : Nat} {L S : List AV} {h : JH} {cu su : Nat} {x y : Int} (hd : decode cc pc = .ok (.iadd, 1)) (k : jXW p l e R s m args below meth c Q D cA B b (pc + 1) L ((0, w32 (x + y)) :: S) h cu su) : jXW p l e R s m args below meth c Q D cA B b pc L ((0, y) :: (0, x) :: S) h cu su := by
  intro H locs ls hH hS hL hs
  obtain ⟨g1, g2, g3⟩ := jms2 hs
  refine lv_iadd hx hb hd ?_
  rw [j32_add]
  exact k H locs ls hH hS hL (jmc (jok_i.mpr (jw32_in _)) g3)

theorem jx_isub (hx : p.tables.exec = Jvm.exec) (hb : c.code = cc) {pc : Nat} {L S : List AV} {h : JH} {cu su : Nat} {x y : Int} (hd : decode cc pc = .ok (.isub, 1)) (k : jXW p l e R s m args below meth c Q D cA B b (pc + 1) L ((0, w32 (x - y)) :: S) h cu su) : jXW p l e R s m args below meth c Q D cA B b pc L ((0, y) :: (0, x) :: S) h cu su := by
  intro H locs ls hH hS hL hs
  obtain ⟨g1, g2, g3⟩ := jms2 hs
  refine lv_isub hx hb hd ?_
  rw [j32_sub]
  exact k H locs ls hH hS hL (jmc (jok_i.mpr (jw32_in _)) g3)

theorem jx_imul (hx : p.tables.exec = Jvm.exec) (hb : c.code = cc) {pc : Nat} {L S : List AV} {h : JH} {cu su : Nat} {x y : Int} (hd : decode cc pc = .ok (.imul, 1)) (k : jXW p l e R s m args below meth c Q D cA B b (pc + 1) L ((0, w32 (x * y)) :: S) h cu su) : jXW p l e R s m args below meth c Q D cA B b pc L ((0, y) :: (0, x) :: S) h cu su := by
  intro H locs ls hH hS hL hs
  obtain ⟨g1, g2, g3⟩ := jms2 hs
  refine lv_imul hx hb hd ?_
  rw [j32_mul]
  exact k H locs ls hH hS hL (jmc (jok_i.mpr (jw32_in _)) g3)

theorem jx_iand (hx : p.tables.exec = Jvm.exec) (hb : c.code = cc) {pc : Nat} {L S : List AV} {h : JH} {cu su : Nat} {x y : Int} (hd : decode cc pc = .ok (.iand, 1)) (k : jXW p l e R s m args below meth c Q D cA B b (pc + 1) L ((0, jand x y) :: S) h cu su) : jXW p l e R s m args below meth c Q D cA B b pc L ((0, y) :: (0, x) :: S) h cu su := by
  intro H locs ls hH hS hL hs
  obtain ⟨g1, g2, g3⟩ := jms2 hs
  refine lv_iand hx hb hd ?_
  have hk := k H locs ls hH hS hL (jmc (jok_i.mpr (j32_in _)) g3)
  rw [List.map_cons, jv_i, jand, Int32.ofInt_toInt] at hk
  exact hk

theorem jx_ior (hx : p.tables.exec = Jvm.exec) (hb : c.code = cc) {pc : Nat} {L S : List AV} {h : JH} {cu su : Nat} {x y : Int} (hd : decode cc pc = .ok (.ior, 1)) (k : jXW p l e R s m args below meth c Q D cA B b (pc + 1) L ((0, jor x y) :: S) h cu su) : jXW p l e R s m args below meth c Q D cA B b pc L ((0, y) :: (0, x) :: S) h cu su := by
  intro H locs ls hH hS hL hs
  obtain ⟨g1, g2, g3⟩ := jms2 hs
  refine lv_ior hx hb hd ?_
  have hk := k H locs ls hH hS hL (jmc (jok_i.mpr (j32_in _)) g3)
  rw [List.map_cons, jv_i, jor, Int32.ofInt_toInt] at hk
  exact hk

theorem jx_ixor (hx : p.tables.exec = Jvm.exec) (hb : c.code = cc) {pc : Nat} {L S : List AV} {h : JH} {cu su : Nat} {x y : Int} (hd : decode cc pc = .ok (.ixor, 1)) (k : jXW p l e R s m args below meth c Q D cA B b (pc + 1) L ((0, jxor x y) :: S) h cu su) : jXW p l e R s m args below meth c Q D cA B b pc L ((0, y) :: (0, x) :: S) h cu su := by
  intro H locs ls hH hS hL hs
  obtain ⟨g1, g2, g3⟩ := jms2 hs
  refine lv_ixor hx hb hd ?_
  have hk := k H locs ls hH hS hL (jmc (jok_i.mpr (j32_in _)) g3)
  rw [List.map_cons, jv_i, jxor, Int32.ofInt_toInt] at hk
  exact hk

theorem jx_ishl (hx : p.tables.exec = Jvm.exec) (hb : c.code = cc) {pc : Nat} {L S : List AV} {h : JH} {cu su : Nat} {x y : Int} (hd : decode cc pc = .ok (.ishl, 1)) (k : jXW p l e R s m args below meth c Q D cA B b (pc + 1) L ((0, jshl x y) :: S) h cu su) : jXW p l e R s m args below meth c Q D cA B b pc L ((0, y) :: (0, x) :: S) h cu su := by
  intro H locs ls hH hS hL hs
  obtain ⟨g1, g2, g3⟩ := jms2 hs
  refine lv_ishl hx hb hd ?_
  have hk := k H locs ls hH hS hL (jmc (jok_i.mpr (j32_in _)) g3)
  rw [List.map_cons, jv_i, jshl, Int32.ofInt_toInt] at hk
  exact hk

theorem jx_ishr (hx : p.tables.exec = Jvm.exec) (hb : c.code = cc) {pc : Nat} {L S : List AV} {h : JH} {cu su : Nat} {x y : Int} (hd : decode cc pc = .ok (.ishr, 1)) (k : jXW p l e R s m args below meth c Q D cA B b (pc + 1) L ((0, jshr x y) :: S) h cu su) : jXW p l e R s m args below meth c Q D cA B b pc L ((0, y) :: (0, x) :: S) h cu su := by
  intro H locs ls hH hS hL hs
  obtain ⟨g1, g2, g3⟩ := jms2 hs
  refine lv_ishr hx hb hd ?_
  have hk := k H locs ls hH hS hL (jmc (jok_i.mpr (j32_in _)) g3)
  rw [List.map_cons, jv_i, jshr, Int32.ofInt_toInt] at hk
  exact hk

theorem jx_iushr (hx : p.tables.exec = Jvm.exec) (hb : c.code = cc) {pc : Nat} {L S : List AV} {h : JH} {cu su : Nat} {x y : Int} (hd : decode cc pc = .ok (.iushr, 1)) (k : jXW p l e R s m args below meth c Q D cA B b (pc + 1) L ((0, jushr x y) :: S) h cu su) : jXW p l e R s m args below meth c Q D cA B b pc L ((0, y) :: (0, x) :: S) h cu su := by
  intro H locs ls hH hS hL hs
  obtain ⟨g1, g2, g3⟩ := jms2 hs
  refine lv_iushr hx hb hd rfl ?_
  have hk := k H locs ls hH hS hL (jmc (jok_i.mpr (j32_in _)) g3)
  rw [List.map_cons, jv_i, jushr, Int32.ofInt_toInt] at hk
  exact hk

theorem jx_idiv (hx : p.tables.exec = Jvm.exec) (hb : c.code = cc) {pc : Nat} {L S : List AV} {h : JH} {cu su : Nat} {x y : Int} (hy : y ≠ 0) (hd : decode cc pc = .ok (.idiv, 1)) (k : jXW p l e R s m args below meth c Q D cA B b (pc + 1) L ((0, w32 (x.tdiv y)) :: S) h cu su) : jXW p l e R s m args below meth c Q D cA B b pc L ((0, y) :: (0, x) :: S) h cu su := by
  intro H locs ls hH hS hL hs
  obtain ⟨g1, g2, g3⟩ := jms2 hs
  refine lv_idiv hx hb hd (fun q => hy ?_) ?_
  · rw [j32_0, j32_eq (jok_i.mp g1) ⟨by omega, by omega⟩] at q
    exact q
  · rw [j32_div (jok_i.mp g2) (jok_i.mp g1)]
    exact k H locs ls hH hS hL (jmc (jok_i.mpr (jw32_in _)) g3)

theorem jx_irem (hx : p.tables.exec = Jvm.exec) (hb : c.code = cc) {pc : Nat} {L S : List AV} {h : JH} {cu su : Nat} {x y : Int} (hy : y ≠ 0) (hd : decode cc pc = .ok (.irem, 1)) (k : jXW p l e R s m args below meth c Q D cA B b (pc + 1) L ((0, x.tmod y) :: S) h cu su) : jXW p l e R s m args below meth c Q D cA B b pc L ((0, y) :: (0, x) :: S) h cu su := by
  intro H locs ls hH hS hL hs
  obtain ⟨g1, g2, g3⟩ := jms2 hs
  refine lv_irem hx hb hd (fun q => hy ?_) ?_
  · rw [j32_0, j32_eq (jok_i.mp g1) ⟨by omega, by omega⟩] at q
    exact q
  · rw [j32_rem (jok_i.mp g2) (jok_i.mp g1)]
    exact k H locs ls hH hS hL (jmc (jok_i.mpr (j32_rem_in (jok_i.mp g1) hy)) g3)

theorem jx_ineg (hx : p.tables.exec = Jvm.exec) (hb : c.code = cc) {pc : Nat} {L S : List AV} {h : JH} {cu su : Nat} {x : Int} (hd : decode cc pc = .ok (.ineg, 1)) (k : jXW p l e R s m args below meth c Q D cA B b (pc + 1) L ((0, w32 (-x)) :: S) h cu su) : jXW p l e R s m args below meth c Q D cA B b pc L ((0, x) :: S) h cu su := by
  intro H locs ls hH hS hL hs
  obtain ⟨g1, g3⟩ := jms1 hs
  refine lv_ineg hx hb hd ?_
  rw [j32_neg]
  exact k H locs ls hH hS hL (jmc (jok_i.mpr (jw32_in _)) g3)

theorem jx_ladd (hx : p.tables.exec = Jvm.exec) (hb : c.code = cc) {pc : Nat} {L S : List AV} {h : JH} {cu su : Nat} {x y : Int} (hd : decode cc pc = .ok (.ladd, 1)) (k : jXW p l e R s m args below meth c Q D cA B b (pc + 1) L ((1, w64 (x + y)) :: S) h cu su) : jXW p l e R s m args below meth c Q D cA B b pc L ((1, y) :: (1, x) :: S) h cu su := by
  intro H locs ls hH hS hL hs
  obtain ⟨g1, g2, g3⟩ := jms2 hs
  refine lv_ladd hx hb hd ?_
  rw [j64_add]
  exact k H locs ls hH hS hL (jmc (jok_l.mpr (jw64_in _)) g3)

theorem jx_lsub (hx : p.tables.exec = Jvm.exec) (hb : c.code = cc) {pc : Nat} {L S : List AV} {h : JH} {cu su : Nat} {x y : Int} (hd : decode cc pc = .ok (.lsub, 1)) (k : jXW p l e R s m args below meth c Q D cA B b (pc + 1) L ((1, w64 (x - y)) :: S) h cu su) : jXW p l e R s m args below meth c Q D cA B b pc L ((1, y) :: (1, x) :: S) h cu su := by
  intro H locs ls hH hS hL hs
  obtain ⟨g1, g2, g3⟩ := jms2 hs
  refine lv_lsub hx hb hd ?_
  rw [j64_sub]
  exact k H locs ls hH hS hL (jmc (jok_l.mpr (jw64_in _)) g3)

theorem jx_lmul (hx : p.tables.exec = Jvm.exec) (hb : c.code = cc) {pc : Nat} {L S : List AV} {h : JH} {cu su : Nat} {x y : Int} (hd : decode cc pc = .ok (.lmul, 1)) (k : jXW p l e R s m args below meth c Q D cA B b (pc + 1) L ((1, w64 (x * y)) :: S) h cu su) : jXW p l e R s m args below meth c Q D cA B b pc L ((1, y) :: (1, x) :: S) h cu su := by
  intro H locs ls hH hS hL hs
  obtain ⟨g1, g2, g3⟩ := jms2 hs
  refine lv_lmul hx hb hd ?_
  rw [j64_mul]
  exact k H locs ls hH hS hL (jmc (jok_l.mpr (jw64_in _)) g3)

theorem jx_land (hx : p.tables.exec = Jvm.exec) (hb : c.code = cc) {pc : Nat} {L S : List AV} {h : JH} {cu su : Nat} {x y : Int} (hd : decode cc pc = .ok (.land, 1)) (k : jXW p l e R s m args below meth c Q D cA B b (pc + 1) L ((1, jandL x y) :: S) h cu su) : jXW p l e R s m args below meth c Q D cA B b pc L ((1, y) :: (1, x) :: S) h cu su := by
  intro H locs ls hH hS hL hs
  obtain ⟨g1, g2, g3⟩ := jms2 hs
  refine lv_land hx hb hd ?_
  have hk := k H locs ls hH hS hL (jmc (jok_l.mpr (j64_in _)) g3)
  rw [List.map_cons, jv_l, jandL, Int64.ofInt_toInt] at hk
  exact hk

theorem jx_lor (hx : p.tables.exec = Jvm.exec) (hb : c.code = cc) {pc : Nat} {L S : List AV} {h : JH} {cu su : Nat} {x y : Int} (hd : decode cc pc = .ok (.lor, 1)) (k : jXW p l e R s m args below meth c Q D cA B b (pc + 1) L ((1, jorL x y) :: S) h cu su) : jXW p l e R s m args below meth c Q D cA B b pc L ((1, y) :: (1, x) :: S) h cu su := by
  intro H locs ls hH hS hL hs
  obtain ⟨g1, g2, g3⟩ := jms2 hs
  refine lv_lor hx hb hd ?_
  have hk := k H locs ls hH hS hL (jmc (jok_l.mpr (j64_in _)) g3)
  rw [List.map_cons, jv_l, jorL, Int64.ofInt_toInt] at hk
  exact hk

theorem jx_lxor (hx : p.tables.exec = Jvm.exec) (hb : c.code = cc) {pc : Nat} {L S : List AV} {h : JH} {cu su : Nat} {x y : Int} (hd : decode cc pc = .ok (.lxor, 1)) (k : jXW p l e R s m args below meth c Q D cA B b (pc + 1) L ((1, jxorL x y) :: S) h cu su) : jXW p l e R s m args below meth c Q D cA B b pc L ((1, y) :: (1, x) :: S) h cu su := by
  intro H locs ls hH hS hL hs
  obtain ⟨g1, g2, g3⟩ := jms2 hs
  refine lv_lxor hx hb hd ?_
  have hk := k H locs ls hH hS hL (jmc (jok_l.mpr (j64_in _)) g3)
  rw [List.map_cons, jv_l, jxorL, Int64.ofInt_toInt] at hk
  exact hk

theorem jx_lshl (hx : p.tables.exec = Jvm.exec) (hb : c.code = cc) {pc : Nat} {L S : List AV} {h : JH} {cu su : Nat} {x y : Int} (hd : decode cc pc = .ok (.lshl, 1)) (k : jXW p l e R s m args below meth c Q D cA B b (pc + 1) L ((1, jshlL x y) :: S) h cu su) : jXW p l e R s m args below meth c Q D cA B b pc L ((0, y) :: (1, x) :: S) h cu su := by
  intro H locs ls hH hS hL hs
  obtain ⟨g1, g2, g3⟩ := jms2 hs
  refine lv_lshl hx hb hd rfl ?_
  have hk := k H locs ls hH hS hL (jmc (jok_l.mpr (j64_in _)) g3)
  rw [List.map_cons, jv_l, jshlL, Int64.ofInt_toInt] at hk
  exact hk

theorem jx_lushr (hx : p.tables.exec = Jvm.exec) (hb : c.code = cc) {pc : Nat} {L S : List AV} {h : JH} {cu su : Nat} {x y : Int} (hd : decode cc pc = .ok (.lushr, 1)) (k : jXW p l e R s m args below meth c Q D cA B b (pc + 1) L ((1, jushrL x y) :: S) h cu su) : jXW p l e R s m args below meth c Q D cA B b pc L ((0, y) :: (1, x) :: S) h cu su := by
  intro H locs ls hH hS hL hs
  obtain ⟨g1, g2, g3⟩ := jms2 hs
  refine lv_lushr hx hb hd rfl ?_
  have hk := k H locs ls hH hS hL (jmc (jok_l.mpr (j64_in _)) g3)
  rw [List.map_cons, jv_l, jushrL, Int64.ofInt_toInt] at hk
  exact hk

theorem jx_ldiv (hx : p.tables.exec = Jvm.exec) (hb : c.code = cc) {pc : Nat} {L S : List AV} {h : JH} {cu su : Nat} {x y : Int} (hy : y ≠ 0) (hd : decode cc pc = .ok (.ldiv, 1)) (k : jXW p l e R s m args below meth c Q D cA B b (pc + 1) L ((1, w64 (x.tdiv y)) :: S) h cu su) : jXW p l e R s m args below meth c Q D cA B b pc L ((1, y) :: (1, x) :: S) h cu su := by
  intro H locs ls hH hS hL hs
  obtain ⟨g1, g2, g3⟩ := jms2 hs
  refine lv_ldiv hx hb hd (fun q => hy ?_) ?_
  · rw [j64_0, j64_eq (jok_l.mp g1) ⟨by omega, by omega⟩] at q
    exact q
  · rw [j64_div (jok_l.mp g2) (jok_l.mp g1)]
    exact k H locs ls hH hS hL (jmc (jok_l.mpr (jw64_in _)) g3)

theorem jx_lrem (hx : p.tables.exec = Jvm.exec) (hb : c.code = cc) {pc : Nat} {L S : List AV} {h : JH} {cu su : Nat} {x y : Int} (hy : y ≠ 0) (hd : decode cc pc = .ok (.lrem, 1)) (k : jXW p l e R s m args below meth c Q D cA B b (pc + 1) L ((1, x.tmod y) :: S) h cu su) : jXW p l e R s m args below meth c Q D cA B b pc L ((1, y) :: (1, x) :: S) h cu su := by
  intro H locs ls hH hS hL hs
  obtain ⟨g1, g2, g3⟩ := jms2 hs
  refine lv_lrem hx hb hd (fun q => hy ?_) ?_
  · rw [j64_0, j64_eq (jok_l.mp g1) ⟨by omega, by omega⟩] at q
    exact q
  · rw [j64_rem (jok_l.mp g2) (jok_l.mp g1)]
    exact k H locs ls hH hS hL (jmc (jok_l.mpr (j64_rem_in (jok_l.mp g1) hy)) g3)

theorem jx_lneg (hx : p.tables.exec = Jvm.exec) (hb : c.code = cc) {pc : Nat} {L S : List AV} {h : JH} {cu su : Nat} {x : Int} (hd : decode cc pc = .ok (.lneg, 1)) (k : jXW p l e R s m args below meth c Q D cA B b (pc + 1) L ((1, w64 (-x)) :: S) h cu su) : jXW p l e R s m args below meth c Q D cA B b pc L ((1, x) :: S) h cu su := by
  intro H locs ls hH hS hL hs
  obtain ⟨g1, g3⟩ := jms1 hs
  refine lv_lneg hx hb hd ?_
  rw [j64_neg]
  exact k H locs ls hH hS hL (jmc (jok_l.mpr (jw64_in _)) g3)

theorem jx_lcmp (hx : p.tables.exec = Jvm.exec) (hb : c.code = cc) {pc : Nat} {L S : List AV} {h : JH} {cu su : Nat} {x y : Int} (hd : decode cc pc = .ok (.lcmp, 1)) (k : jXW p l e R s m args below meth c Q D cA B b (pc + 1) L ((0, jcmpL x y) :: S) h cu su) : jXW p l e R s m args below meth c Q D cA B b pc L ((1, y) :: (1, x) :: S) h cu su := by
  intro H locs ls hH hS hL hs
  obtain ⟨g1, g2, g3⟩ := jms2 hs
  refine W.lcmp hx hb hd ?_
  rw [j64_cmp (jok_l.mp g2) (jok_l.mp g1)]
  refine k H locs ls hH hS hL (jmc (jok_i.mpr ?_) g3)
  unfold jcmpL
  split
  · omega
  · split <;> omega

theorem jx_i2l (hx : p.tables.exec = Jvm.exec) (hb : c.code = cc) {pc : Nat} {L S : List AV} {h : JH} {cu su : Nat} {x : Int} (hd : decode cc pc = .ok (.i2l, 1)) (k : jXW p l e R s m args below meth c Q D cA B b (pc + 1) L ((1, x) :: S) h cu su) : jXW p l e R s m args below meth c Q D cA B b pc L ((0, x) :: S) h cu su := by
  intro H locs ls hH hS hL hs
  obtain ⟨g1, g3⟩ := jms1 hs
  have g := jok_i.mp g1
  exact lv_i2l hx hb hd (j32_64 g.1 g.2) (k H locs ls hH hS hL (jmc (jok_l.mpr (by omega)) g3))

theorem jx_l2i (hx : p.tables.exec = Jvm.exec) (hb : c.code = cc) {pc : Nat} {L S : List AV} {h : JH} {cu su : Nat} {x : Int} (hd : decode cc pc = .ok (.l2i, 1)) (k : jXW p l e R s m args below meth c Q D cA B b (pc + 1) L ((0, w32 x) :: S) h cu su) : jXW p l e R s m args below meth c Q D cA B b pc L ((1, x) :: S) h cu su := by
  intro H locs ls hH hS hL hs
  obtain ⟨g1, g3⟩ := jms1 hs
  have g := jok_l.mp g1
  exact lv_l2i hx hb hd (j64_32 g.1 g.2) (k H locs ls hH hS hL (jmc (jok_i.mpr (jw32_in _)) g3))

theorem jx_i2b (hx : p.tables.exec = Jvm.exec) (hb : c.code = cc) {pc : Nat} {L S : List AV} {h : JH} {cu su : Nat} {x : Int} (hd : decode cc pc = .ok (.i2b, 1)) (k : jXW p l e R s m args below meth c Q D cA B b (pc + 1) L ((0, w8 x) :: S) h cu su) : jXW p l e R s m args below meth c Q D cA B b pc L ((0, x) :: S) h cu su := by
  intro H locs ls hH hS hL hs
  obtain ⟨g1, g3⟩ := jms1 hs
  have g := jok_i.mp g1
  have g5 := jw8_in x
  exact lv_i2b hx hb hd (j32_8 g.1 g.2) (k H locs ls hH hS hL (jmc (jok_i.mpr (by omega)) g3))

theorem jx_i2s (hx : p.tables.exec = Jvm.exec) (hb : c.code = cc) {pc : Nat} {L S : List AV} {h : JH} {cu su : Nat} {x : Int} (hd : decode cc pc = .ok (.i2s, 1)) (k : jXW p l e R s m args below meth c Q D cA B b (pc + 1) L ((0, w16 x) :: S) h cu su) : jXW p l e R s m args below meth c Q D cA B b pc L ((0, x) :: S) h cu su := by
  intro H locs ls hH hS hL hs
  obtain ⟨g1, g3⟩ := jms1 hs
  have g := jok_i.mp g1
  have g5 := jw16_in x
  exact lv_i2s hx hb hd (j32_16 g.1 g.2) (k H locs ls hH hS hL (jmc (jok_i.mpr (by omega)) g3))

theorem jx_pop (hx : p.tables.exec = Jvm.exec) (hb : c.code = cc) {pc : Nat} {L S : List AV} {h : JH} {cu su : Nat} {v : AV} (hv : ¬ v.1 = 1) (hd : decode cc pc = .ok (.pop, 1)) (k : jXW p l e R s m args below meth c Q D cA B b (pc + 1) L (S) h cu su) : jXW p l e R s m args below meth c Q D cA B b pc L (v :: S) h cu su := by
  intro H locs ls hH hS hL hs
  obtain ⟨g1, g3⟩ := jms1 hs
  exact lv_pop hx hb hd (by rw [jv_cat B b g1, if_neg hv]) (k H locs ls hH hS hL g3)

theorem jx_pop2 (hx : p.tables.exec = Jvm.exec) (hb : c.code = cc) {pc : Nat} {L S : List AV} {h : JH} {cu su : Nat} {v : AV} (hv : v.1 = 1) (hd : decode cc pc = .ok (.pop2, 1)) (k : jXW p l e R s m args below meth c Q D cA B b (pc + 1) L (S) h cu su) : jXW p l e R s m args below meth c Q D cA B b pc L (v :: S) h cu su := by
  intro H locs ls hH hS hL hs
  obtain ⟨g1, g3⟩ := jms1 hs
  exact lv_pop2_2 hx hb hd (by rw [jv_cat B b g1, if_pos hv]) (k H locs ls hH hS hL g3)

theorem jx_dup (hx : p.tables.exec = Jvm.exec) (hb : c.code = cc) {pc : Nat} {L S : List AV} {h : JH} {cu su : Nat} {v : AV} (hv : ¬ v.1 = 1) (hd : decode cc pc = .ok (.dup, 1)) (k : jXW p l e R s m args below meth c Q D cA B b (pc + 1) L (v :: v :: S) h cu su) : jXW p l e R s m args below meth c Q D cA B b pc L (v :: S) h cu su := by
  intro H locs ls hH hS hL hs
  obtain ⟨g1, g3⟩ := jms1 hs
  exact lv_dup hx hb hd (by rw [jv_cat B b g1, if_neg hv]) (k H locs ls hH hS hL (jmc g1 hs))

theorem jx_dup2l (hx : p.tables.exec = Jvm.exec) (hb : c.code = cc) {pc : Nat} {L S : List AV} {h : JH} {cu su : Nat} {v : AV} (hv : v.1 = 1) (hd : decode cc pc = .ok (.dup2, 1)) (k : jXW p l e R s m args below meth c Q D cA B b (pc + 1) L (v :: v :: S) h cu su) : jXW p l e R s m args below meth c Q D cA B b pc L (v :: S) h cu su := by
  intro H locs ls hH hS hL hs
  obtain ⟨g1, g3⟩ := jms1 hs
  exact lv_dup2_2 hx hb hd (by rw [jv_cat B b g1, if_pos hv]) (k H locs ls hH hS hL (jmc g1 hs))

theorem jx_dup2 (hx : p.tables.exec = Jvm.exec) (hb : c.code = cc) {pc : Nat} {L S : List AV} {h : JH} {cu su : Nat} {v w : AV} (hv : ¬ v.1 = 1) (hw : ¬ w.1 = 1) (hd : decode cc pc = .ok (.dup2, 1)) (k : jXW p l e R s m args below meth c Q D cA B b (pc + 1) L (w :: v :: w :: v :: S) h cu su) : jXW p l e R s m args below meth c Q D cA B b pc L (w :: v :: S) h cu su := by
  intro H locs ls hH hS hL hs
  obtain ⟨g1, g2, g3⟩ := jms2 hs
  exact lv_dup2_11 hx hb hd (by rw [jv_cat B b g1, if_neg hw]) (by rw [jv_cat B b g2, if_neg hv]) (k H locs ls hH hS hL (jmc g1 (jmc g2 hs)))

theorem jx_icmp_eq (hx : p.tables.exec = Jvm.exec) (hb : c.code = cc) {pc tgt : Nat} {L S : List AV} {h : JH} {cu su : Nat} {x y off : Int} (hd : decode cc pc = .ok (.if_icmp .eq off, 3)) (ht : (pc : Int) + off = tgt) (kt : x = y → jXW p l e R s m args below meth c Q D cA B b tgt L S h cu su) (kf : ¬ (x = y) → jXW p l e R s m args below meth c Q D cA B b (pc + 3) L S h cu su) : jXW p l e R s m args below meth c Q D cA B b pc L ((0, y) :: (0, x) :: S) h cu su := by
  intro H locs ls hH hS hL hs
  obtain ⟨g1, g2, g3⟩ := jms2 hs
  have ra := jok_i.mp g2
  have rc := jok_i.mp g1
  refine lv_icmp_eq hx hb hd ht (fun q => kt ?_ H locs ls hH hS hL g3) (fun q => kf ?_ H locs ls hH hS hL g3)
  · first | exact (j32_eq ra rc).mp q | exact fun z => q ((j32_eq ra rc).mpr z) | exact Decidable.of_not_not (fun z => absurd q (by simp_all))
  · first | exact fun z => q ((j32_eq ra rc).mpr z) | exact fun z => z ((j32_eq ra rc).mp q) | (intro z; exact q (fun w => z ((j32_eq ra rc).mp w)))

theorem jx_if_eq (hx : p.tables.exec = Jvm.exec) (hb : c.code = cc) {pc tgt : Nat} {L S : List AV} {h : JH} {cu su : Nat} {x off : Int} (hd : decode cc pc = .ok (.ifCond .eq off, 3)) (ht : (pc : Int) + off = tgt) (kt : x = 0 → jXW p l e R s m args below meth c Q D cA B b tgt L S h cu su) (kf : ¬ (x = 0) → jXW p l e R s m args below meth c Q D cA B b (pc + 3) L S h cu su) : jXW p l e R s m args below meth c Q D cA B b pc L ((0, x) :: S) h cu su := by
  intro H locs ls hH hS hL hs
  obtain ⟨g1, g3⟩ := jms1 hs
  have ra := jok_i.mp g1
  have rc : -2147483648 ≤ (0 : Int) ∧ (0 : Int) < 2147483648 := by omega
  refine lv_if_eq hx hb hd ht (fun q => kt ?_ H locs ls hH hS hL g3) (fun q => kf ?_ H locs ls hH hS hL g3)
  · rw [j32_0] at q
    first | exact (j32_eq ra rc).mp q | exact fun z => q ((j32_eq ra rc).mpr z) | exact Decidable.of_not_not (fun z => absurd q (by simp_all))
  · rw [j32_0] at q
    first | exact fun z => q ((j32_eq ra rc).mpr z) | exact fun z => z ((j32_eq ra rc).mp q) | (intro z; exact q (fun w => z ((j32_eq ra rc).mp w)))

theorem jx_icmp_ne (hx : p.tables.exec = Jvm.exec) (hb : c.code = cc) {pc tgt : Nat} {L S : List AV} {h : JH} {cu su : Nat} {x y off : Int} (hd : decode cc pc = .ok (.if_icmp .ne off, 3)) (ht : (pc : Int) + off = tgt) (kt : x ≠ y → jXW p l e R s m args below meth c Q D cA B b tgt L S h cu su) (kf : ¬ (x ≠ y) → jXW p l e R s m args below meth c Q D cA B b (pc + 3) L S h cu su) : jXW p l e R s m args below meth c Q D cA B b pc L ((0, y) :: (0, x) :: S) h cu su := by
  intro H locs ls hH hS hL hs
  obtain ⟨g1, g2, g3⟩ := jms2 hs
  have ra := jok_i.mp g2
  have rc := jok_i.mp g1
  refine lv_icmp_ne hx hb hd ht (fun q => kt ?_ H locs ls hH hS hL g3) (fun q => kf ?_ H locs ls hH hS hL g3)
  · first | exact (j32_eq ra rc).mp q | exact fun z => q ((j32_eq ra rc).mpr z) | exact Decidable.of_not_not (fun z => absurd q (by simp_all))
  · first | exact fun z => q ((j32_eq ra rc).mpr z) | exact fun z => z ((j32_eq ra rc).mp q) | (intro z; exact q (fun w => z ((j32_eq ra rc).mp w)))

theorem jx_if_ne (hx : p.tables.exec = Jvm.exec) (hb : c.code = cc) {pc tgt : Nat} {L S : List AV} {h : JH} {cu su : Nat} {x off : Int} (hd : decode cc pc = .ok (.ifCond .ne off, 3)) (ht : (pc : Int) + off = tgt) (kt : x ≠ 0 → jXW p l e R s m args below meth c Q D cA B b tgt L S h cu su) (kf : ¬ (x ≠ 0) → jXW p l e R s m args below meth c Q D cA B b (pc + 3) L S h cu su) : jXW p l e R s m args below meth c Q D cA B b pc L ((0, x) :: S) h cu su := by
  intro H locs ls hH hS hL hs
  obtain ⟨g1, g3⟩ := jms1 hs
  have ra := jok_i.mp g1
  have rc : -2147483648 ≤ (0 : Int) ∧ (0 : Int) < 2147483648 := by omega
  refine lv_if_ne hx hb hd ht (fun q => kt ?_ H locs ls hH hS hL g3) (fun q => kf ?_ H locs ls hH hS hL g3)
  · rw [j32_0] at q
    first | exact (j32_eq ra rc).mp q | exact fun z => q ((j32_eq ra rc).mpr z) | exact Decidable.of_not_not (fun z => absurd q (by simp_all))
  · rw [j32_0] at q
    first | exact fun z => q ((j32_eq ra rc).mpr z) | exact fun z => z ((j32_eq ra rc).mp q) | (intro z; exact q (fun w => z ((j32_eq ra rc).mp w)))

theorem jx_icmp_lt (hx : p.tables.exec = Jvm.exec) (hb : c.code = cc) {pc tgt : Nat} {L S : List AV} {h : JH} {cu su : Nat} {x y off : Int} (hd : decode cc pc = .ok (.if_icmp .lt off, 3)) (ht : (pc : Int) + off = tgt) (kt : x < y → jXW p l e R s m args below meth c Q D cA B b tgt L S h cu su) (kf : ¬ (x < y) → jXW p l e R s m args below meth c Q D cA B b (pc + 3) L S h cu su) : jXW p l e R s m args below meth c Q D cA B b pc L ((0, y) :: (0, x) :: S) h cu su := by
  intro H locs ls hH hS hL hs
  obtain ⟨g1, g2, g3⟩ := jms2 hs
  have ra := jok_i.mp g2
  have rc := jok_i.mp g1
  refine lv_icmp_lt hx hb hd ht (fun q => kt ?_ H locs ls hH hS hL g3) (fun q => kf ?_ H locs ls hH hS hL g3)
  · first | exact (j32_lt ra rc).mp q | exact fun z => q ((j32_lt ra rc).mpr z) | exact Decidable.of_not_not (fun z => absurd q (by simp_all))
  · first | exact fun z => q ((j32_lt ra rc).mpr z) | exact fun z => z ((j32_lt ra rc).mp q) | (intro z; exact q (fun w => z ((j32_lt ra rc).mp w)))

theorem jx_if_lt (hx : p.tables.exec = Jvm.exec) (hb : c.code = cc) {pc tgt : Nat} {L S : List AV} {h : JH} {cu su : Nat} {x off : Int} (hd : decode cc pc = .ok (.ifCond .lt off, 3)) (ht : (pc : Int) + off = tgt) (kt : x < 0 → jXW p l e R s m args below meth c Q D cA B b tgt L S h cu su) (kf : ¬ (x < 0) → jXW p l e R s m args below meth c Q D cA B b (pc + 3) L S h cu su) : jXW p l e R s m args below meth c Q D cA B b pc L ((0, x) :: S) h cu su := by
  intro H locs ls hH hS hL hs
  obtain ⟨g1, g3⟩ := jms1 hs
  have ra := jok_i.mp g1
  have rc : -2147483648 ≤ (0 : Int) ∧ (0 : Int) < 2147483648 := by omega
  refine lv_if_lt hx hb hd ht (fun q => kt ?_ H locs ls hH hS hL g3) (fun q => kf ?_ H locs ls hH hS hL g3)
  · rw [j32_0] at q
    first | exact (j32_lt ra rc).mp q | exact fun z => q ((j32_lt ra rc).mpr z) | exact Decidable.of_not_not (fun z => absurd q (by simp_all))
  · rw [j32_0] at q
    first | exact fun z => q ((j32_lt ra rc).mpr z) | exact fun z => z ((j32_lt ra rc).mp q) | (intro z; exact q (fun w => z ((j32_lt ra rc).mp w)))

theorem jx_icmp_ge (hx : p.tables.exec = Jvm.exec) (hb : c.code = cc) {pc tgt : Nat} {L S : List AV} {h : JH} {cu su : Nat} {x y off : Int} (hd : decode cc pc = .ok (.if_icmp .ge off, 3)) (ht : (pc : Int) + off = tgt) (kt : y ≤ x → jXW p l e R s m args below meth c Q D cA B b tgt L S h cu su) (kf : ¬ (y ≤ x) → jXW p l e R s m args below meth c Q D cA B b (pc + 3) L S h cu su) : jXW p l e R s m args below meth c Q D cA B b pc L ((0, y) :: (0, x) :: S) h cu su := by
  intro H locs ls hH hS hL hs
  obtain ⟨g1, g2, g3⟩ := jms2 hs
  have ra := jok_i.mp g2
  have rc := jok_i.mp g1
  refine lv_icmp_ge hx hb hd ht (fun q => kt ?_ H locs ls hH hS hL g3) (fun q => kf ?_ H locs ls hH hS hL g3)
  · first | exact (j32_le rc ra).mp q | exact fun z => q ((j32_le rc ra).mpr z) | exact Decidable.of_not_not (fun z => absurd q (by simp_all))
  · first | exact fun z => q ((j32_le rc ra).mpr z) | exact fun z => z ((j32_le rc ra).mp q) | (intro z; exact q (fun w => z ((j32_le rc ra).mp w)))

theorem jx_if_ge (hx : p.tables.exec = Jvm.exec) (hb : c.code = cc) {pc tgt : Nat} {L S : List AV} {h : JH} {cu su : Nat} {x off : Int} (hd : decode cc pc = .ok (.ifCond .ge off, 3)) (ht : (pc : Int) + off = tgt) (kt : 0 ≤ x → jXW p l e R s m args below meth c Q D cA B b tgt L S h cu su) (kf : ¬ (0 ≤ x) → jXW p l e R s m args below meth c Q D cA B b (pc + 3) L S h cu su) : jXW p l e R s m args below meth c Q D cA B b pc L ((0, x) :: S) h cu su := by
  intro H locs ls hH hS hL hs
  obtain ⟨g1, g3⟩ := jms1 hs
  have ra := jok_i.mp g1
  have rc : -2147483648 ≤ (0 : Int) ∧ (0 : Int) < 2147483648 := by omega
  refine lv_if_ge hx hb hd ht (fun q => kt ?_ H locs ls hH hS hL g3) (fun q => kf ?_ H locs ls hH hS hL g3)
  · rw [j32_0] at q
    first | exact (j32_le rc ra).mp q | exact fun z => q ((j32_le rc ra).mpr z) | exact Decidable.of_not_not (fun z => absurd q (by simp_all))
  · rw [j32_0] at q
    first | exact fun z => q ((j32_le rc ra).mpr z) | exact fun z => z ((j32_le rc ra).mp q) | (intro z; exact q (fun w => z ((j32_le rc ra).mp w)))

theorem jx_icmp_gt (hx : p.tables.exec = Jvm.exec) (hb : c.code = cc) {pc tgt : Nat} {L S : List AV} {h : JH} {cu su : Nat} {x y off : Int} (hd : decode cc pc = .ok (.if_icmp .gt off, 3)) (ht : (pc : Int) + off = tgt) (kt : y < x → jXW p l e R s m args below meth c Q D cA B b tgt L S h cu su) (kf : ¬ (y < x) → jXW p l e R s m args below meth c Q D cA B b (pc + 3) L S h cu su) : jXW p l e R s m args below meth c Q D cA B b pc L ((0, y) :: (0, x) :: S) h cu su := by
  intro H locs ls hH hS hL hs
  obtain ⟨g1, g2, g3⟩ := jms2 hs
  have ra := jok_i.mp g2
  have rc := jok_i.mp g1
  refine lv_icmp_gt hx hb hd ht (fun q => kt ?_ H locs ls hH hS hL g3) (fun q => kf ?_ H locs ls hH hS hL g3)
  · first | exact (j32_lt rc ra).mp q | exact fun z => q ((j32_lt rc ra).mpr z) | exact Decidable.of_not_not (fun z => absurd q (by simp_all))
  · first | exact fun z => q ((j32_lt rc ra).mpr z) | exact fun z => z ((j32_lt rc ra).mp q) | (intro z; exact q (fun w => z ((j32_lt rc ra).mp w)))

theorem jx_if_gt (hx : p.tables.exec = Jvm.exec) (hb : c.code = cc) {pc tgt : Nat} {L S : List AV} {h : JH} {cu su : Nat} {x off : Int} (hd : decode cc pc = .ok (.ifCond .gt off, 3)) (ht : (pc : Int) + off = tgt) (kt : 0 < x → jXW p l e R s m args below meth c Q D cA B b tgt L S h cu su) (kf : ¬ (0 < x) → jXW p l e R s m args below meth c Q D cA B b (pc + 3) L S h cu su) : jXW p l e R s m args below meth c Q D cA B b pc L ((0, x) :: S) h cu su := by
  intro H locs ls hH hS hL hs
  obtain ⟨g1, g3⟩ := jms1 hs
  have ra := jok_i.mp g1
  have rc : -2147483648 ≤ (0 : Int) ∧ (0 : Int) < 2147483648 := by omega
  refine lv_if_gt hx hb hd ht (fun q => kt ?_ H locs ls hH hS hL g3) (fun q => kf ?_ H locs ls hH hS hL g3)
  · rw [j32_0] at q
    first | exact (j32_lt rc ra).mp q | exact fun z => q ((j32_lt rc ra).mpr z) | exact Decidable.of_not_not (fun z => absurd q (by simp_all))
  · rw [j32_0] at q
    first | exact fun z => q ((j32_lt rc ra).mpr z) | exact fun z => z ((j32_lt rc ra).mp q) | (intro z; exact q (fun w => z ((j32_lt rc ra).mp w)))

theorem jx_icmp_le (hx : p.tables.exec = Jvm.exec) (hb : c.code = cc) {pc tgt : Nat} {L S : List AV} {h : JH} {cu su : Nat} {x y off : Int} (hd : decode cc pc = .ok (.if_icmp .le off, 3)) (ht : (pc : Int) + off = tgt) (kt : x ≤ y → jXW p l e R s m args below meth c Q D cA B b tgt L S h cu su) (kf : ¬ (x ≤ y) → jXW p l e R s m args below meth c Q D cA B b (pc + 3) L S h cu su) : jXW p l e R s m args below meth c Q D cA B b pc L ((0, y) :: (0, x) :: S) h cu su := by
  intro H locs ls hH hS hL hs
  obtain ⟨g1, g2, g3⟩ := jms2 hs
  have ra := jok_i.mp g2
  have rc := jok_i.mp g1
  refine lv_icmp_le hx hb hd ht (fun q => kt ?_ H locs ls hH hS hL g3) (fun q => kf ?_ H locs ls hH hS hL g3)
  · first | exact (j32_le ra rc).mp q | exact fun z => q ((j32_le ra rc).mpr z) | exact Decidable.of_not_not (fun z => absurd q (by simp_all))
  · first | exact fun z => q ((j32_le ra rc).mpr z) | exact fun z => z ((j32_le ra rc).mp q) | (intro z; exact q (fun w => z ((j32_le ra rc).mp w)))

theorem jx_if_le (hx : p.tables.exec = Jvm.exec) (hb : c.code = cc) {pc tgt : Nat} {L S : List AV} {h : JH} {cu su : Nat} {x off : Int} (hd : decode cc pc = .ok (.ifCond .le off, 3)) (ht : (pc : Int) + off = tgt) (kt : x ≤ 0 → jXW p l e R s m args below meth c Q D cA B b tgt L S h cu su) (kf : ¬ (x ≤ 0) → jXW p l e R s m args below meth c Q D cA B b (pc + 3) L S h cu su) : jXW p l e R s m args below meth c Q D cA B b pc L ((0, x) :: S) h cu su := by
  intro H locs ls hH hS hL hs
  obtain ⟨g1, g3⟩ := jms1 hs
  have ra := jok_i.mp g1
  have rc : -2147483648 ≤ (0 : Int) ∧ (0 : Int) < 2147483648 := by omega
  refine lv_if_le hx hb hd ht (fun q => kt ?_ H locs ls hH hS hL g3) (fun q => kf ?_ H locs ls hH hS hL g3)
  · rw [j32_0] at q
    first | exact (j32_le ra rc).mp q | exact fun z => q ((j32_le ra rc).mpr z) | exact Decidable.of_not_not (fun z => absurd q (by simp_all))
  · rw [j32_0] at q
    first | exact fun z => q ((j32_le ra rc).mpr z) | exact fun z => z ((j32_le ra rc).mp q) | (intro z; exact q (fun w => z ((j32_le ra rc).mp w)))

theorem jx_goto (hx : p.tables.exec = Jvm.exec) (hb : c.code = cc) {pc tgt : Nat} {L S : List AV} {h : JH} {cu su : Nat} {off : Int} (hd : decode cc pc = .ok (.goto off, 3)) (ht : (pc : Int) + off = tgt) (k : jXW p l e R s m args below meth c Q D cA B b tgt L S h cu su) : jXW p l e R s m args below meth c Q D cA B b pc L S h cu su := by
  intro H locs ls hH hS hL hs
  exact lv_goto hx hb hd ht (k H locs ls hH hS hL hs)
theorem jx_ifnull (hx : p.tables.exec = Jvm.exec) (hb : c.code = cc) {pc tgt : Nat} {L S : List AV} {h : JH} {cu su : Nat} {x off : Int} (hd : decode cc pc = .ok (.ifnull off, 3)) (ht : (pc : Int) + off = tgt) (kt : x = -1 → jXW p l e R s m args below meth c Q D cA B b tgt L S h cu su) (kf : ¬ x = -1 → jXW p l e R s m args below meth c Q D cA B b (pc + 3) L S h cu su) : jXW p l e R s m args below meth c Q D cA B b pc L ((2, x) :: S) h cu su := by
  intro H locs ls hH hS hL hs
  obtain ⟨g1, g3⟩ := jms1 hs
  rcases (show x = -1 ∨ x = -2 ∨ 0 ≤ x by have := jok_a.mp g1; omega) with e | e | e
  · subst e
    exact lv_ifnullN hx hb hd ht (kt rfl H locs ls hH hS hL g3)
  · subst e
    exact lv_ifnull hx hb hd (kf (by omega) H locs ls hH hS hL g3)
  · rw [List.map_cons, jv_r B b e]
    exact lv_ifnull hx hb hd (kf (by omega) H locs ls hH hS hL g3)
theorem jx_ifnonnull (hx : p.tables.exec = Jvm.exec) (hb : c.code = cc) {pc tgt : Nat} {L S : List AV} {h : JH} {cu su : Nat} {x off : Int} (hd : decode cc pc = .ok (.ifnonnull off, 3)) (ht : (pc : Int) + off = tgt) (kt : ¬ x = -1 → jXW p l e R s m args below meth c Q D cA B b tgt L S h cu su) (kf : x = -1 → jXW p l e R s m args below meth c Q D cA B b (pc + 3) L S h cu su) : jXW p l e R s m args below meth c Q D cA B b pc L ((2, x) :: S) h cu su := by
  intro H locs ls hH hS hL hs
  obtain ⟨g1, g3⟩ := jms1 hs
  rcases (show x = -1 ∨ x = -2 ∨ 0 ≤ x by have := jok_a.mp g1; omega) with e | e | e
  · subst e
    exact lv_ifnonnullN hx hb hd (kf rfl H locs ls hH hS hL g3)
  · subst e
    exact lv_ifnonnull hx hb hd ht (kt (by omega) H locs ls hH hS hL g3)
  · rw [List.map_cons, jv_r B b e]
    exact lv_ifnonnull hx hb hd ht (kt (by omega) H locs ls hH hS hL g3)
theorem jx_tabIn (hx : p.tables.exec = Jvm.exec) (hb : c.code = cc) {pc tgt len : Nat} {L S : List AV} {h : JH} {cu su : Nat} {x dflt lo hi off : Int} {offs : Array Int} (hd : decode cc pc = .ok (.tableswitch dflt lo hi offs, len)) (h1 : ¬ x < lo) (h2 : ¬ hi < x) (ho : offs[(x - lo).toNat]? = some off) (ht : (pc : Int) + off = tgt) (k : jXW p l e R s m args below meth c Q D cA B b tgt L S h cu su) : jXW p l e R s m args below meth c Q D cA B b pc L ((0, x) :: S) h cu su := by
  intro H locs ls hH hS hL hs
  obtain ⟨g1, g3⟩ := jms1 hs
  have a := jok_i.mp g1
  exact lv_tableIn hx hb hd (by rw [j32 a.1 a.2]; exact h1) (by rw [j32 a.1 a.2]; exact h2) (by rw [j32 a.1 a.2]; exact ho) ht (k H locs ls hH hS hL g3)
theorem jx_tabOut (hx : p.tables.exec = Jvm.exec) (hb : c.code = cc) {pc tgt len : Nat} {L S : List AV} {h : JH} {cu su : Nat} {x dflt lo hi : Int} {offs : Array Int} (hd : decode cc pc = .ok (.tableswitch dflt lo hi offs, len)) (h1 : x < lo ∨ hi < x) (ht : (pc : Int) + dflt = tgt) (k : jXW p l e R s m args below meth c Q D cA B b tgt L S h cu su) : jXW p l e R s m args below meth c Q D cA B b pc L ((0, x) :: S) h cu su := by
  intro H locs ls hH hS hL hs
  obtain ⟨g1, g3⟩ := jms1 hs
  have a := jok_i.mp g1
  exact lv_tableOut hx hb hd (by rw [j32 a.1 a.2]; exact h1) ht (k H locs ls hH hS hL g3)

end JX
end
section
def jCh (i : Nat) : List Cond := match i with
  | 0 => k2_sels lw_privs
  | 1 => tables_1_1
  | 2 => tables_1_2
  | 3 => tables_1_3
  | 4 => tables_1_4
  | 5 => tables_1_5
  | 6 => tables_1_6
  | 7 => tables_1_7
  | 8 => tables_1_8
  | 9 => tables_1_9
  | _ => []
def jword (n : Nat) : Option Cond := (jCh (n / 1000))[n % 1000]?
theorem jword_mem {n : Nat} {w : Cond} (h : jword n = some w) : w ∈ lw_tbl := by
  have h1 := List.mem_of_getElem? h
  unfold lw_tbl
  unfold jCh at h1
  split at h1
  · exact List.mem_append_left _ h1
  · exact List.mem_append_right _ (List.mem_append_left _ h1)
  · exact List.mem_append_right _ (List.mem_append_right _ (List.mem_append_left _ h1))
  · exact List.mem_append_right _ (List.mem_append_right _ (List.mem_append_right _ (List.mem_append_left _ h1)))
  · exact List.mem_append_right _ (List.mem_append_right _ (List.mem_append_right _ (List.mem_append_right _ (List.mem_append_left _ h1))))
  · exact List.mem_append_right _ (List.mem_append_right _ (List.mem_append_right _ (List.mem_append_right _ (List.mem_append_right _ (List.mem_append_left _ h1)))))
  · exact List.mem_append_right _ (List.mem_append_right _ (List.mem_append_right _ (List.mem_append_right _ (List.mem_append_right _ (List.mem_append_right _ (List.mem_append_left _ h1))))))
  · exact List.mem_append_right _ (List.mem_append_right _ (List.mem_append_right _ (List.mem_append_right _ (List.mem_append_right _ (List.mem_append_right _ (List.mem_append_right _ (List.mem_append_left _ h1)))))))
  · exact List.mem_append_right _ (List.mem_append_right _ (List.mem_append_right _ (List.mem_append_right _ (List.mem_append_right _ (List.mem_append_right _ (List.mem_append_right _ (List.mem_append_right _ (List.mem_append_left _ h1))))))))
  · exact List.mem_append_right _ (List.mem_append_right _ (List.mem_append_right _ (List.mem_append_right _ (List.mem_append_right _ (List.mem_append_right _ (List.mem_append_right _ (List.mem_append_right _ (List.mem_append_right _ h1))))))))
  · cases h1
def jin (j : Nat) (w : Cond) : Bool := decide (jword j = some w) && goodWord w
theorem jin_mem {j : Nat} {w : Cond} (h : jin j w = true) : w ∈ jTB := by
  simp only [jin, Bool.and_eq_true, decide_eq_true_eq] at h
  exact List.mem_filter.mpr ⟨jword_mem h.1, h.2⟩
def jinN (j : Nat) (w : Cond) : Bool := decide (jword j = some w) && jisN w
theorem jinN_mem {j : Nat} {w : Cond} (h : jinN j w = true) : w ∈ jNW := by
  simp only [jinN, Bool.and_eq_true, decide_eq_true_eq] at h
  exact List.mem_filter.mpr ⟨jword_mem h.1, h.2⟩
theorem jlay_of (ws : List Cond) (ps : List Nat) (hp : ws = ps.filterMap (fun i => jword i)) (h : ws.all goodWord = true) : ∀ w ∈ ws, w ∈ jTB := by
  intro w hw
  have h1 := List.all_eq_true.mp h w hw
  rw [hp] at hw
  obtain ⟨i, -, hi⟩ := List.mem_filterMap.mp hw
  exact List.mem_filter.mpr ⟨jword_mem hi, h1⟩
set_option maxRecDepth 20000 in
theorem jlay0 : ∀ w ∈ u_ws RX0 TX0 3, w ∈ jTB := jlay_of _ [1166, 1168, 1170] (by decide +kernel) (by decide +kernel)
set_option maxRecDepth 20000 in
theorem jlay1 : ∀ w ∈ u_ws RX1 TX1 3, w ∈ jTB := jlay_of _ [3198, 3199, 3200] (by decide +kernel) (by decide +kernel)
set_option maxRecDepth 20000 in
theorem jlay2 : ∀ w ∈ u_ws RX2 TX2 3, w ∈ jTB := jlay_of _ [3208, 3209, 3210] (by decide +kernel) (by decide +kernel)
set_option maxRecDepth 20000 in
theorem jlay3 : ∀ w ∈ u_ws RX3 TX3 3, w ∈ jTB := jlay_of _ [3228, 3229, 3230] (by decide +kernel) (by decide +kernel)
set_option maxRecDepth 20000 in
theorem jlay4 : ∀ w ∈ u_ws RX4 TX4 14, w ∈ jTB := jlay_of _ [3058, 3060, 3062, 3064, 3066, 3068, 3070, 3072, 3074, 3076, 3078, 3080, 3082, 3084] (by decide +kernel) (by decide +kernel)
set_option maxRecDepth 20000 in
theorem jlay5 : ∀ w ∈ u_ws RX5 TX5 15, w ∈ jTB := jlay_of _ [1083, 1085, 1087, 1089, 1091, 1093, 1095, 1097, 1099, 1101, 1103, 1105, 1107, 1109, 1111] (by decide +kernel) (by decide +kernel)
set_option maxRecDepth 20000 in
theorem jlay6 : ∀ w ∈ u_ws RX6 TX6 3, w ∈ jTB := jlay_of _ [3218, 3219, 3220] (by decide +kernel) (by decide +kernel)
set_option maxRecDepth 20000 in
theorem jlay7 : ∀ w ∈ u_ws RX7 TX7 6, w ∈ jTB := jlay_of _ [1130, 1132, 1134, 1136, 1138, 1140] (by decide +kernel) (by decide +kernel)
set_option maxRecDepth 20000 in
theorem jlay8 : ∀ w ∈ u_ws RX8 TX8 3, w ∈ jTB := jlay_of _ [3238, 3239, 4000] (by decide +kernel) (by decide +kernel)
set_option maxRecDepth 20000 in
theorem jlay9 : ∀ w ∈ u_ws RX9 TX9 15, w ∈ jTB := jlay_of _ [1196, 1198, 1200, 1202, 1204, 1206, 1208, 1210, 1212, 1214, 1216, 1218, 1220, 1222, 1224] (by decide +kernel) (by decide +kernel)
set_option maxRecDepth 20000 in
theorem jlay10 : ∀ w ∈ u_ws RX10 TX10 8, w ∈ jTB := jlay_of _ [1041, 1043, 1045, 1047, 1049, 1051, 1053, 1055] (by decide +kernel) (by decide +kernel)
set_option maxRecDepth 20000 in
theorem jlay11 : ∀ w ∈ u_ws RX11 TX11 17, w ∈ jTB := jlay_of _ [2007, 2009, 2011, 2013, 2015, 2017, 2019, 2021, 2023, 2025, 2027, 2029, 2031, 2033, 2035, 2037, 2039] (by decide +kernel) (by decide +kernel)
set_option maxRecDepth 20000 in
theorem jlay12 : ∀ w ∈ u_ws RX12 TX12 66, w ∈ jTB := jlay_of _ [7021, 7023, 7025, 7027, 7029, 7031, 7033, 7035, 7037, 7039, 7041, 7043, 7045, 7047, 7049, 7051, 7053, 7055, 7057, 7059, 7061, 7063, 7065, 7067, 7069, 7071, 7073, 7075, 7077, 7079, 7081, 7083, 7085, 7087, 7089, 7091, 7093, 7095, 7097, 7099, 7101, 7103, 7105, 7107, 7109, 7111, 7113, 7115, 7117, 7119, 7121, 7123, 7125, 7127, 7129, 7131, 7133, 7135, 7137, 7139, 7141, 7143, 7145, 7147, 7149, 7151] (by decide +kernel) (by decide +kernel)
theorem jlays : ∀ (t : Nat) (q : vw_C), vwCl[t]? = some q → ∀ w ∈ u_ws q.1 q.2.1 q.2.2, w ∈ jTB := by
  intro t q hq
  match t, hq with
  | 0, hq => cases hq; exact jlay0
  | 1, hq => cases hq; exact jlay1
  | 2, hq => cases hq; exact jlay2
  | 3, hq => cases hq; exact jlay3
  | 4, hq => cases hq; exact jlay4
  | 5, hq => cases hq; exact jlay5
  | 6, hq => cases hq; exact jlay6
  | 7, hq => cases hq; exact jlay7
  | 8, hq => cases hq; exact jlay8
  | 9, hq => cases hq; exact jlay9
  | 10, hq => cases hq; exact jlay10
  | 11, hq => cases hq; exact jlay11
  | 12, hq => cases hq; exact jlay12
  | t + 13, hq => simp [vwCl] at hq
theorem jarrW (a : ArrayType) (h : jat a < 24) : Cond.arrayClass (newarray.typeOf a) ∈ jTB := by
  cases a <;> simp [jat] at h
  · exact jin_mem (j := 3087) (by decide +kernel)
  · exact jin_mem (j := 1114) (by decide +kernel)
  · exact jin_mem (j := 1058) (by decide +kernel)
  · exact jin_mem (j := 1059) (by decide +kernel)
theorem jcast (t : Nat) (q : vw_C) (hq : vwCl[t]? = some q) (hf : jfam 0 t = true) (h0 : t ≠ 0) : Cond.castable q.1 RX0 ∈ jNW := by
  match t, hq with
  | 1, hq => cases hq; exact jinN_mem (j := 9233) (by decide +kernel)
  | 2, hq => cases hq; exact jinN_mem (j := 9234) (by decide +kernel)
  | 3, hq => cases hq; exact jinN_mem (j := 9236) (by decide +kernel)
  | 6, hq => cases hq; exact jinN_mem (j := 9235) (by decide +kernel)
  | 8, hq => cases hq; exact jinN_mem (j := 9237) (by decide +kernel)
  | 0, _ => exact absurd rfl h0
  | 4, _ => cases hf
  | 5, _ => cases hf
  | 7, _ => cases hf
  | 9, _ => cases hf
  | 10, _ => cases hf
  | 11, _ => cases hf
  | 12, _ => cases hf
  | t + 13, hq => simp [vwCl] at hq
/-! memory: the simple machine's loads and stores are the real one's -/
def jTy (k : Nat) : Nat → FieldType := match k with
  | 0 => tyX0
  | 1 => tyX1
  | 2 => tyX2
  | 3 => tyX3
  | 4 => tyX4
  | 5 => tyX5
  | 6 => tyX6
  | 7 => tyX7
  | 8 => tyX8
  | 9 => tyX9
  | 10 => tyX10
  | 11 => tyX11
  | _ => tyX12
theorem jcl_lt {t : Nat} {q : vw_C} (h : vwCl[t]? = some q) : t < 13 := (List.getElem?_eq_some_iff.mp h).1
theorem jcl_some {t : Nat} (h : t < 13) : ∃ q, vwCl[t]? = some q := ⟨vwCl[t], List.getElem?_eq_getElem h⟩
theorem jcl_N {t : Nat} {q : vw_C} (h : vwCl[t]? = some q) : jN t = q.2.2 := by simp only [jN, h]
theorem jTy_ok : ∀ (t : Nat) (q : vw_C), vwCl[t]? = some q → ∀ k, k < q.2.2 → parseFieldDescriptor (q.2.1 k).2.2.1 = some (jTy t k) := by
  intro t q hq
  match t, hq with
  | 0, hq => cases hq; exact tyX0_ok
  | 1, hq => cases hq; exact tyX1_ok
  | 2, hq => cases hq; exact tyX2_ok
  | 3, hq => cases hq; exact tyX3_ok
  | 4, hq => cases hq; exact tyX4_ok
  | 5, hq => cases hq; exact tyX5_ok
  | 6, hq => cases hq; exact tyX6_ok
  | 7, hq => cases hq; exact tyX7_ok
  | 8, hq => cases hq; exact tyX8_ok
  | 9, hq => cases hq; exact tyX9_ok
  | 10, hq => cases hq; exact tyX10_ok
  | 11, hq => cases hq; exact tyX11_ok
  | 12, hq => cases hq; exact tyX12_ok
  | t + 13, hq => simp [vwCl] at hq
theorem jNm_ok : ∀ (t : Nat) (q : vw_C), vwCl[t]? = some q → ∀ a, a < q.2.2 → ∀ b, b < q.2.2 → a ≠ b → (q.2.1 a).2.1 ≠ (q.2.1 b).2.1 := by
  intro t q hq
  match t, hq with
  | 0, hq => cases hq; exact nmX0
  | 1, hq => cases hq; exact nmX1
  | 2, hq => cases hq; exact nmX2
  | 3, hq => cases hq; exact nmX3
  | 4, hq => cases hq; exact nmX4
  | 5, hq => cases hq; exact nmX5
  | 6, hq => cases hq; exact nmX6
  | 7, hq => cases hq; exact nmX7
  | 8, hq => cases hq; exact nmX8
  | 9, hq => cases hq; exact nmX9
  | 10, hq => cases hq; exact nmX10
  | 11, hq => cases hq; exact nmX11
  | 12, hq => cases hq; exact nmX12
  | t + 13, hq => simp [vwCl] at hq
/-- a field's type and its kind -/
def jtk (ty : FieldType) (n : Nat) : Bool := match ty with
  | .int => n == 0
  | .long => n == 1
  | .boolean => n == 3
  | .object _ => n == 2
  | .array _ => n == 2
  | _ => false
set_option maxRecDepth 20000 in
theorem jTy_kind : ∀ t, t < 13 → ∀ k, k < jN t → jtk (jTy t k) (jfty t k) = true := by decide +kernel
theorem jfits {B b : Nat} {ty : FieldType} {n : Nat} {v : Int} (h : jtk ty n = true) (hv : jok (jsk n, v)) (hz : n = 3 → v = 0 ∨ v = 1) : narrow ty (jv B b (jsk n, v)) = jv B b (jsk n, v) ∧ fits ty (jv B b (jsk n, v)) = true := by
  cases ty with
  | int =>
    have e : n = 0 := by simpa [jtk] using h
    subst e
    exact ⟨rfl, rfl⟩
  | long =>
    have e : n = 1 := by simpa [jtk] using h
    subst e
    exact ⟨rfl, rfl⟩
  | boolean =>
    have e : n = 3 := by simpa [jtk] using h
    subst e
    rcases hz rfl with e | e <;> subst e
    · exact ⟨(by decide : Value.int (Int32.ofInt 0 &&& 1) = .int (Int32.ofInt 0)), (by decide : fits .boolean (.int (Int32.ofInt 0)) = true)⟩
    · exact ⟨(by decide : Value.int (Int32.ofInt 1 &&& 1) = .int (Int32.ofInt 1)), (by decide : fits .boolean (.int (Int32.ofInt 1)) = true)⟩
  | object C =>
    have e : n = 2 := by simpa [jtk] using h
    subst e
    show narrow (.object C) (jv B b (2, v)) = jv B b (2, v) ∧ fits (.object C) (jv B b (2, v)) = true
    unfold jv
    simp only
    split
    · exact ⟨rfl, rfl⟩
    · split <;> exact ⟨rfl, rfl⟩
  | array C =>
    have e : n = 2 := by simpa [jtk] using h
    subst e
    show narrow (.array C) (jv B b (2, v)) = jv B b (2, v) ∧ fits (.array C) (jv B b (2, v)) = true
    unfold jv
    simp only
    split
    · exact ⟨rfl, rfl⟩
    · split <;> exact ⟨rfl, rfl⟩
  | _ => simp [jtk] at h
theorem jV_upd (B b t k : Nat) (f : Nat → Int) (x : Int) (j : Nat) : updV (jV B b t f) k (jv B b (jfkd t k, x)) j = jV B b t (fun i => if i = k then x else f i) j := by
  unfold updV jV
  by_cases h : j = k
  · subst h
    simp
  · simp [h]
theorem jwr_at (h : JH) (a i : Nat) (v : Int) (k : Nat) : (jwr h a i v).2.2 k = if k = a then (fun j => if j = i then v else h.2.2 k j) else h.2.2 k := by
  funext j
  unfold jwr
  by_cases e : k = a
  · simp [e]
  · simp [e]
section JM
variable {p : Program} {l : Launch} {e : Env} {R : Room} {s : State} {m : MethodId} {args : Array Value} {below : List Frame} {meth : Method} {c : Code} {Q : State → Prop} {D : va_G} {cA : Nat → ClassId} {B b : Nat} {xl : Option Nat} {xs : Nat → Int} {cc : ByteArray} {own : String}
/-- a store into one cell: the other cells are as they were -/
theorem jHp.wr {H H1 : Heap} {h : JH} {a i : Nat} {x : Int} (hH : jHp D cA B b H h) (hz : H1.size = H.size) (ho : ∀ q : Nat, q ≠ B + a → H1[q]? = H[q]?) (hc : jcell D cA B b H1 a (h.2.1 a).1 (h.2.1 a).2 (fun j => if j = i then x else h.2.2 a j)) : jHp D cA B b H1 (jwr h a i x) := by
  refine ⟨hz.trans hH.1, fun k hk => ?_⟩
  show jcell D cA B b H1 k (h.2.1 k).1 (h.2.1 k).2 ((jwr h a i x).2.2 k)
  rw [jwr_at]
  by_cases e : k = a
  · subst e
    rw [if_pos rfl]
    exact hc
  · rw [if_neg e]
    exact (hH.2 k hk).kept (ho _ (by omega))
theorem jcok_set {t n i : Nat} {f : Nat → Int} {x : Int} (h : ∀ j, j < n → jcok t j (f j)) (hx : jcok t i x) : ∀ j, j < n → jcok t j ((fun j => if j = i then x else f j) j) := by
  intro j hj
  by_cases e : j = i
  · subst e
    simpa using hx
  · simpa [e] using h j hj
theorem jS_put {H H1 : Heap} {locs : List Loc} {a k : Nat} (hS : va_S (fun q => B ≤ q) s.heap H locs) (z : H1.size = H.size) (oq : ∀ q : Nat, q ≠ B + a → H1[q]? = H[q]?) : va_S (fun q => B ≤ q) s.heap H1 (locs ++ [⟨B + a, k⟩]) := hS.put z oq (Nat.le_add_right _ _)
theorem jx_getf (hx : p.tables.exec = Jvm.exec) (hb : c.code = cc) (ho : s.vm.findClass own = some m.cls) (hts : ∀ w ∈ jTB, w.before args s = true) (hK : jK D cA s) {pc : Nat} {L S : List AV} {h : JH} {cu su k x : Nat} {r : Int} {ref : String} {q : vw_C} (h0 : 0 ≤ r) (hlt : r.toNat < h.1) (hq : vwCl[(h.2.1 r.toNat).1]? = some q) (hk : k < q.2.2)
    (hl : (Cond.fieldLink own x ref (q.2.1 k).2.1 (q.2.1 k).2.2.1).before args s = true) (hsame : ref = (q.2.1 k).1 ∨ (Cond.sameField ref (q.2.1 k).1 (q.2.1 k).2.1 (q.2.1 k).2.2.1).before args s = true) (hd : decode cc pc = .ok (.getfield x, 3))
    (kk : jXW p l e R s m args below meth c Q D cA B b (pc + 3) L ((jfkd (h.2.1 r.toNat).1 k, h.2.2 r.toNat k) :: S) h cu su) : jXW p l e R s m args below meth c Q D cA B b pc L ((2, r) :: S) h cu su := by
  intro H locs ls hH hS hL hs
  obtain ⟨g1, g3⟩ := jms1 hs
  obtain ⟨hc1, hc2⟩ := hH.2 _ hlt
  have ht := jcl_lt hq
  have hN := jcl_N hq
  rcases hc2 with ⟨-, hn, hob⟩ | ⟨z, -⟩
  · rw [List.map_cons, jv_r B b h0]
    obtain ⟨cell, q1, q2, q3, q4⟩ := hob
    obtain ⟨hSl, hfc, kC, hkC, hkind⟩ := hK.1 _ _ hq
    obtain ⟨cf, kf, fi, f, hi, hsl⟩ := hSl k hk
    have hlay := u_lays hts (jlays _ _ hq) hk
    have hi' : s.fieldFound? ref (q.2.1 k).2.1 (q.2.1 k).2.2.1 = some (cf, kf, fi, f) := by
      rcases hsame with e | e
      · rw [e]; exact hi
      · exact u_same e _ hi
    have hkn : k < (h.2.1 r.toNat).2 := by rw [hn, hN]; exact hk
    refine W.getf hx hb ho hl hi' (u_facts hfc hkC hlay hi).1 q1 (by rw [q3]; exact fun h => by cases h) (v := jV B b (h.2.1 r.toNat).1 (h.2.2 r.toNat) k) (by rw [hsl, q4 k hkn]) rfl rfl hd ?_
    exact kk H locs ls hH hS hL (jmc (hc1 k hkn).1 g3)
  · omega
theorem jx_putf (hx : p.tables.exec = Jvm.exec) (hb : c.code = cc) (ho : s.vm.findClass own = some m.cls) (hts : ∀ w ∈ jTB, w.before args s = true) (hK : jK D cA s) {pc : Nat} {L S : List AV} {h : JH} {cu su k x : Nat} {r v : Int} {ref : String} {q : vw_C} (h0 : 0 ≤ r) (hlt : r.toNat < h.1) (hq : vwCl[(h.2.1 r.toNat).1]? = some q) (hk : k < q.2.2)
    (hl : (Cond.fieldLink own x ref (q.2.1 k).2.1 (q.2.1 k).2.2.1).before args s = true) (hsame : ref = (q.2.1 k).1 ∨ (Cond.sameField ref (q.2.1 k).1 (q.2.1 k).2.1 (q.2.1 k).2.2.1).before args s = true) (hfin : (q.2.1 k).2.2.2 = false ∨ (meth.name = "<init>" ∧ (q.2.1 k).1 = own)) (hz : jfty (h.2.1 r.toNat).1 k = 3 → v = 0 ∨ v = 1) (hv2 : jfkd (h.2.1 r.toNat).1 k = 2 → v ≠ -2) (hd : decode cc pc = .ok (.putfield x, 3))
    (kk : jXW p l e R s m args below meth c Q D cA B b (pc + 3) L S (jwr h r.toNat k v) cu su) : jXW p l e R s m args below meth c Q D cA B b pc L ((jfkd (h.2.1 r.toNat).1 k, v) :: (2, r) :: S) h cu su := by
  intro H locs ls hH hS hL hs
  obtain ⟨g1, g2, g3⟩ := jms2 hs
  obtain ⟨hc1, hc2⟩ := hH.2 _ hlt
  have ht := jcl_lt hq
  have hN := jcl_N hq
  rcases hc2 with ⟨-, hn, hob⟩ | ⟨z, -⟩
  · rw [List.map_cons, List.map_cons, jv_r B b h0]
    obtain ⟨cell, q1, q2, q3, q4⟩ := hob
    obtain ⟨hSl, hfc, kC, hkC, hkind⟩ := hK.1 _ _ hq
    obtain ⟨cf, kf, fi, f, hi, hsl⟩ := hSl k hk
    have hin := jlays _ _ hq
    have hkn : k < (h.2.1 r.toNat).2 := by rw [hn, hN]; exact hk
    have hlay := hts _ (hin _ (u_in_lay hk))
    have hst := (u_facts hfc hkC (u_lays hts hin hk) hi).1
    have hi' : s.fieldFound? ref (q.2.1 k).2.1 (q.2.1 k).2.2.1 = some (cf, kf, fi, f) := by
      rcases hsame with e | e
      · rw [e]; exact hi
      · exact u_same e _ hi
    have t20 : (h.2.1 r.toNat).1 < 20 := by omega
    have hkd : jfkd (h.2.1 r.toNat).1 k = jsk (jfty (h.2.1 r.toNat).1 k) := by unfold jfkd; rw [if_pos t20]
    have hfit := jfits (B := B) (b := b) (v := v) (jTy_kind _ ht k (by rw [hN]; exact hk)) (by rw [← hkd]; exact g1) hz
    rw [← hkd] at hfit
    have hap := va_apart (own := own) hts hin (jTy (h.2.1 r.toNat).1) (jTy_ok _ _ hq) (jNm_ok _ _ hq) (D := D) (cl := vwCl) (tys := []) ⟨hK.1, fun k q h => by simp at h⟩ hq
    have key : ∀ H' : Heap, H'[B + r.toNat]? = some (cell.setSlot f.slot (jv B b (jfkd (h.2.1 r.toNat).1 k, v))) → H'.size = H.size → (∀ q, q ≠ B + r.toNat → H'[q]? = H[q]?) → W p l e R s m args below meth c H' (locs ++ [⟨B + r.toNat, f.slot⟩]) cu su Q (F0 m (pc + 3) ls (S.map (jv B b))) := by
      intro H' e1 e2 e3
      rw [hsl] at e1 ⊢
      refine kk H' _ ls (hH.wr e2 e3 ⟨jcok_set hc1 ⟨g1, fun _ => hz, fun e => by omega, fun e => by omega, hv2⟩, Or.inl ⟨ht, hn, ?_⟩⟩) (jS_put hS e2 e3) hL g3
      refine t_OB.to (V := updV (jV B b (h.2.1 r.toNat).1 (h.2.2 r.toNat)) k (jv B b (jfkd (h.2.1 r.toNat).1 k, v))) ⟨_, e1, q2, q3, ?_⟩ (fun j _ => jV_upd B b _ k _ v j)
      rw [hn, hN] at q4 ⊢
      exact t_set q4 hap hk _
    unfold u_lay at hlay
    by_cases hf : (q.2.1 k).2.2.2 = true
    · rw [if_pos hf] at hlay
      rcases hfin with e | ⟨e4, e5⟩
      · rw [hf] at e; cases e
      · have hcf : m.cls = cf := by
          obtain ⟨_, _, c', _, _, _, -, -, hf', -, -, -, hown2, -⟩ := Cond.laysFinal_spec hlay
          have e1 : c' = cf := by have := hi.symm.trans hf'; simp at this; exact this.1.symm
          rw [e5] at hown2
          rw [← e1]; exact Option.some.inj (ho.symm.trans hown2)
        have h6 := u_fits hfc hkC hkind (Or.inr hlay) hi (jTy_ok _ _ hq k hk) hfit.1 hfit.2
        exact W.putFinK hx hb ho hl hi' hst hcf e4 (by rw [q2]; exact h6) q1 q3 (by rw [hsl]; exact k2_hasslot (q4 k hkn)) rfl rfl hd key
    · rw [if_neg hf] at hlay
      have h6 := u_store hfc hkC hkind hlay hi (jTy_ok _ _ hq k hk) hfit.1 hfit.2
      exact W.putK hx hb (f := f) ⟨ho, hl, ⟨_, _, _, hi'⟩, hst⟩ (by rw [q2]; exact h6) q1 q3 (by rw [hsl]; exact k2_hasslot (q4 k hkn)) rfl rfl hd key
  · omega
/-- an array cell as the heap has it -/
theorem jarr {H : Heap} {h : JH} {a t : Nat} (hH : jHp D cA B b H h) (ha : a < h.1) (ht : (h.2.1 a).1 = t) (h20 : 20 ≤ t) : t ≤ 25 ∧ H[B + a]? = some (arrV (cA t) (h.2.1 a).2 (jV B b t (h.2.2 a))) ∧ ∀ j, j < (h.2.1 a).2 → jcok t j (h.2.2 a j) := by
  obtain ⟨hc1, hc2⟩ := hH.2 _ ha
  rw [ht] at hc1 hc2
  rcases hc2 with ⟨z, -⟩ | ⟨-, h1, h2⟩
  · omega
  · exact ⟨h1, h2, hc1⟩
theorem jx_iald (hx : p.tables.exec = Jvm.exec) (hb : c.code = cc) (hK : jK D cA s) {pc : Nat} {L S : List AV} {h : JH} {cu su : Nat} {r i : Int} (h0 : 0 ≤ r) (hlt : r.toNat < h.1) (ht : (h.2.1 r.toNat).1 = 20) (hi0 : 0 ≤ i) (hi : i.toNat < (h.2.1 r.toNat).2) (hd : decode cc pc = .ok (.iaload, 1)) (kk : jXW p l e R s m args below meth c Q D cA B b (pc + 1) L ((0, h.2.2 r.toNat i.toNat) :: S) h cu su) : jXW p l e R s m args below meth c Q D cA B b pc L ((0, i) :: (2, r) :: S) h cu su := by
  intro H locs ls hH hS hL hs
  obtain ⟨g1, g2, g3⟩ := jms2 hs
  have gi := jok_i.mp g1
  obtain ⟨-, ha, hc⟩ := jarr hH hlt ht (by omega)
  rw [List.map_cons, List.map_cons, jv_r B b h0, jv_i]
  refine W.iald (v := jV B b 20 (h.2.2 r.toNat) i.toNat) hx hb ha ((hK.2.1 20 (by omega) (by omega)).1 _ _) (fun q => by cases q) (by rw [arrV_size]; exact j32_vin hi0 gi.2 hi) (by rw [j32_clamp hi0 gi.2, arrV_read _ _ hi]) rfl rfl hd ?_
  exact kk H locs ls hH hS hL (jmc (hc _ hi).1 g3)
theorem jx_lald (hx : p.tables.exec = Jvm.exec) (hb : c.code = cc) (hK : jK D cA s) {pc : Nat} {L S : List AV} {h : JH} {cu su : Nat} {r i : Int} (h0 : 0 ≤ r) (hlt : r.toNat < h.1) (ht : (h.2.1 r.toNat).1 = 21) (hi0 : 0 ≤ i) (hi : i.toNat < (h.2.1 r.toNat).2) (hd : decode cc pc = .ok (.laload, 1)) (kk : jXW p l e R s m args below meth c Q D cA B b (pc + 1) L ((1, h.2.2 r.toNat i.toNat) :: S) h cu su) : jXW p l e R s m args below meth c Q D cA B b pc L ((0, i) :: (2, r) :: S) h cu su := by
  intro H locs ls hH hS hL hs
  obtain ⟨g1, g2, g3⟩ := jms2 hs
  have gi := jok_i.mp g1
  obtain ⟨-, ha, hc⟩ := jarr hH hlt ht (by omega)
  rw [List.map_cons, List.map_cons, jv_r B b h0, jv_i]
  refine W.lald (v := jV B b 21 (h.2.2 r.toNat) i.toNat) hx hb ha ((hK.2.1 21 (by omega) (by omega)).1 _ _) (fun q => by cases q) (by rw [arrV_size]; exact j32_vin hi0 gi.2 hi) (by rw [j32_clamp hi0 gi.2, arrV_read _ _ hi]) rfl rfl hd ?_
  exact kk H locs ls hH hS hL (jmc (hc _ hi).1 g3)
theorem jx_bald (hx : p.tables.exec = Jvm.exec) (hb : c.code = cc) (hK : jK D cA s) {pc : Nat} {L S : List AV} {h : JH} {cu su : Nat} {r i : Int} (h0 : 0 ≤ r) (hlt : r.toNat < h.1) (ht : (h.2.1 r.toNat).1 = 22) (hi0 : 0 ≤ i) (hi : i.toNat < (h.2.1 r.toNat).2) (hd : decode cc pc = .ok (.baload, 1)) (kk : jXW p l e R s m args below meth c Q D cA B b (pc + 1) L ((0, h.2.2 r.toNat i.toNat) :: S) h cu su) : jXW p l e R s m args below meth c Q D cA B b pc L ((0, i) :: (2, r) :: S) h cu su := by
  intro H locs ls hH hS hL hs
  obtain ⟨g1, g2, g3⟩ := jms2 hs
  have gi := jok_i.mp g1
  obtain ⟨-, ha, hc⟩ := jarr hH hlt ht (by omega)
  rw [List.map_cons, List.map_cons, jv_r B b h0, jv_i]
  refine W.bald (v := jV B b 22 (h.2.2 r.toNat) i.toNat) hx hb ha ((hK.2.1 22 (by omega) (by omega)).1 _ _) (fun q => by cases q) (by rw [arrV_size]; exact j32_vin hi0 gi.2 hi) (by rw [j32_clamp hi0 gi.2, arrV_read _ _ hi]) rfl rfl hd ?_
  exact kk H locs ls hH hS hL (jmc (hc _ hi).1 g3)
theorem jx_zald (hx : p.tables.exec = Jvm.exec) (hb : c.code = cc) (hK : jK D cA s) {pc : Nat} {L S : List AV} {h : JH} {cu su : Nat} {r i : Int} (h0 : 0 ≤ r) (hlt : r.toNat < h.1) (ht : (h.2.1 r.toNat).1 = 23) (hi0 : 0 ≤ i) (hi : i.toNat < (h.2.1 r.toNat).2) (hd : decode cc pc = .ok (.baload, 1)) (kk : jXW p l e R s m args below meth c Q D cA B b (pc + 1) L ((0, h.2.2 r.toNat i.toNat) :: S) h cu su) : jXW p l e R s m args below meth c Q D cA B b pc L ((0, i) :: (2, r) :: S) h cu su := by
  intro H locs ls hH hS hL hs
  obtain ⟨g1, g2, g3⟩ := jms2 hs
  have gi := jok_i.mp g1
  obtain ⟨-, ha, hc⟩ := jarr hH hlt ht (by omega)
  rw [List.map_cons, List.map_cons, jv_r B b h0, jv_i]
  refine W.zald (v := jV B b 23 (h.2.2 r.toNat) i.toNat) hx hb ha ((hK.2.1 23 (by omega) (by omega)).1 _ _) (fun q => by cases q) (by rw [arrV_size]; exact j32_vin hi0 gi.2 hi) (by rw [j32_clamp hi0 gi.2, arrV_read _ _ hi]) rfl rfl hd ?_
  exact kk H locs ls hH hS hL (jmc (hc _ hi).1 g3)
theorem jx_aald (hx : p.tables.exec = Jvm.exec) (hb : c.code = cc) (hK : jK D cA s) {pc t : Nat} {L S : List AV} {h : JH} {cu su : Nat} {r i : Int} (h0 : 0 ≤ r) (hlt : r.toNat < h.1) (ht : (h.2.1 r.toNat).1 = t) (ht2 : t = 24 ∨ t = 25) (hi0 : 0 ≤ i) (hi : i.toNat < (h.2.1 r.toNat).2) (hd : decode cc pc = .ok (.aaload, 1)) (kk : jXW p l e R s m args below meth c Q D cA B b (pc + 1) L ((2, h.2.2 r.toNat i.toNat) :: S) h cu su) : jXW p l e R s m args below meth c Q D cA B b pc L ((0, i) :: (2, r) :: S) h cu su := by
  intro H locs ls hH hS hL hs
  obtain ⟨g1, g2, g3⟩ := jms2 hs
  have gi := jok_i.mp g1
  obtain ⟨-, ha, hc⟩ := jarr hH hlt ht (by omega)
  have hkd : jfkd t i.toNat = 2 := by rcases ht2 with e | e <;> subst e <;> rfl
  have hrt : (jty t).isReference = true := by rcases ht2 with e | e <;> subst e <;> rfl
  rw [List.map_cons, List.map_cons, jv_r B b h0, jv_i]
  refine W.aald (v := jV B b t (h.2.2 r.toNat) i.toNat) hx hb ha ((hK.2.1 t (by omega) (by omega)).1 _ _) hrt (fun q => by cases q) (by rw [arrV_size]; exact j32_vin hi0 gi.2 hi) (by rw [j32_clamp hi0 gi.2, arrV_read _ _ hi]) rfl rfl hd ?_
  have hk := kk H locs ls hH hS hL (jmc (by have := (hc _ hi).1; rw [hkd] at this; exact this) g3)
  unfold jV
  rw [hkd]
  exact hk
theorem jx_sald (hx : p.tables.exec = Jvm.exec) (hb : c.code = cc) (hKp : jKp D cA B b xl xs s s.heap) (hB : B ≤ s.heap.size) {pc : Nat} {L S : List AV} {h : JH} {cu su : Nat} {i : Int} (hi0 : 0 ≤ i) (hi : jxin xl i.toNat = true) (hd : decode cc pc = .ok (.iaload, 1)) (kk : jXW p l e R s m args below meth c Q D cA B b (pc + 1) L ((0, xs i.toNat) :: S) h cu su) : jXW p l e R s m args below meth c Q D cA B b pc L ((0, i) :: (2, -2) :: S) h cu su := by
  intro H locs ls hH hS hL hs
  obtain ⟨g1, g2, g3⟩ := jms2 hs
  have gi := jok_i.mp g1
  have hbl : b < s.heap.size := Nat.lt_of_lt_of_le hKp.2.1 hB
  cases hxl : xl with
  | none => rw [hxl] at hi; cases hi
  | some m' =>
    obtain ⟨hX, hr, -⟩ := hKp.2.2 m' hxl
    rw [hxl] at hi
    have hi' : i.toNat < m' := by simpa [jxin] using hi
    have hk := kk H locs ls hH hS hL (jmc (jok_i.mpr (hr _)) g3)
    refine va_sld hx hb hX hbl (Nat.not_le.mpr hKp.2.1) hS (j32_vin hi0 gi.2 hi') hd ?_
    rw [j32_clamp hi0 gi.2]
    exact hk
theorem jx_saln (hx : p.tables.exec = Jvm.exec) (hb : c.code = cc) (hKp : jKp D cA B b xl xs s s.heap) (hB : B ≤ s.heap.size) {pc m' : Nat} {L S : List AV} {h : JH} {cu su : Nat} (hxl : xl = some m') (hd : decode cc pc = .ok (.arraylength, 1)) (kk : jXW p l e R s m args below meth c Q D cA B b (pc + 1) L ((0, (m' : Int)) :: S) h cu su) : jXW p l e R s m args below meth c Q D cA B b pc L ((2, -2) :: S) h cu su := by
  intro H locs ls hH hS hL hs
  obtain ⟨g2, g3⟩ := jms1 hs
  have hbl : b < s.heap.size := Nat.lt_of_lt_of_le hKp.2.1 hB
  obtain ⟨hX, hr, hn⟩ := hKp.2.2 m' hxl
  have hk := kk H locs ls hH hS hL (jmc (jok_i.mpr (by omega)) g3)
  refine va_slen hx hb hX hbl (Nat.not_le.mpr hKp.2.1) hS hd ?_
  rw [← Int32.ofInt_eq_ofNat]
  exact hk
theorem jx_aln (hx : p.tables.exec = Jvm.exec) (hb : c.code = cc) (hK : jK D cA s) {pc : Nat} {L S : List AV} {h : JH} {cu su : Nat} {r : Int} (h0 : 0 ≤ r) (hlt : r.toNat < h.1) (h20 : 20 ≤ (h.2.1 r.toNat).1) (hn : (h.2.1 r.toNat).2 < 2147483648) (hd : decode cc pc = .ok (.arraylength, 1)) (kk : jXW p l e R s m args below meth c Q D cA B b (pc + 1) L ((0, ((h.2.1 r.toNat).2 : Int)) :: S) h cu su) : jXW p l e R s m args below meth c Q D cA B b pc L ((2, r) :: S) h cu su := by
  intro H locs ls hH hS hL hs
  obtain ⟨g2, g3⟩ := jms1 hs
  obtain ⟨h25, ha, hc⟩ := jarr hH hlt rfl h20
  have hk := kk H locs ls hH hS hL (jmc (jok_i.mpr (by omega)) g3)
  rw [List.map_cons, jv_r B b h0]
  refine W.alen (n := Int32.ofNat (h.2.1 r.toNat).2) hx hb ha ((hK.2.1 _ h20 h25).1 _ _) (by rw [arrV_size] <;> rfl) rfl rfl hd ?_
  rw [← Int32.ofInt_eq_ofNat]
  exact hk
theorem jarr_upd {t n i : Nat} {f : Nat → Int} {x : Int} {v : Value} (hv : v = jv B b (jfkd t i, x)) (cI : ClassId) : (arrV cI n (jV B b t f)).setSlot i v = arrV cI n (jV B b t (fun j => if j = i then x else f j)) := by
  subst hv
  rw [arrV_store]
  congr 1
  funext j
  exact jV_upd B b t i f x j
theorem jx_iast (hx : p.tables.exec = Jvm.exec) (hb : c.code = cc) (hK : jK D cA s) {pc : Nat} {L S : List AV} {h : JH} {cu su : Nat} {r i v : Int} (h0 : 0 ≤ r) (hlt : r.toNat < h.1) (ht : (h.2.1 r.toNat).1 = 20) (hi0 : 0 ≤ i) (hi : i.toNat < (h.2.1 r.toNat).2) (hd : decode cc pc = .ok (.iastore, 1)) (kk : jXW p l e R s m args below meth c Q D cA B b (pc + 1) L S (jwr h r.toNat i.toNat v) cu su) : jXW p l e R s m args below meth c Q D cA B b pc L ((0, v) :: (0, i) :: (2, r) :: S) h cu su := by
  intro H locs ls hH hS hL hs
  obtain ⟨g1, hs⟩ := jms1 hs
  obtain ⟨g4, g2, g3⟩ := jms2 hs
  have gi := jok_i.mp g4
  obtain ⟨-, ha, hc⟩ := jarr hH hlt ht (by omega)
  rw [List.map_cons, List.map_cons, List.map_cons, jv_r B b h0, jv_i, jv_i]
  refine W.iast hx hb ha ((hK.2.1 20 (by omega) (by omega)).1 _ _) (fun q => by cases q) (by rw [arrV_size]; exact j32_vin hi0 gi.2 hi) rfl rfl hd fun H1 e z oq => ?_
  rw [j32_clamp hi0 gi.2] at e ⊢
  refine kk H1 _ ls (hH.wr z oq ?_) (jS_put hS z oq) hL g3
  rw [ht]
  exact ⟨jcok_set hc ⟨g1, fun q => by omega, fun q => by omega, fun q => by omega, fun q => by cases q⟩, Or.inr ⟨by omega, by omega, e.trans (congrArg some (jarr_upd rfl _))⟩⟩
theorem jx_last (hx : p.tables.exec = Jvm.exec) (hb : c.code = cc) (hK : jK D cA s) {pc : Nat} {L S : List AV} {h : JH} {cu su : Nat} {r i v : Int} (h0 : 0 ≤ r) (hlt : r.toNat < h.1) (ht : (h.2.1 r.toNat).1 = 21) (hi0 : 0 ≤ i) (hi : i.toNat < (h.2.1 r.toNat).2) (hd : decode cc pc = .ok (.lastore, 1)) (kk : jXW p l e R s m args below meth c Q D cA B b (pc + 1) L S (jwr h r.toNat i.toNat v) cu su) : jXW p l e R s m args below meth c Q D cA B b pc L ((1, v) :: (0, i) :: (2, r) :: S) h cu su := by
  intro H locs ls hH hS hL hs
  obtain ⟨g1, hs⟩ := jms1 hs
  obtain ⟨g4, g2, g3⟩ := jms2 hs
  have gi := jok_i.mp g4
  obtain ⟨-, ha, hc⟩ := jarr hH hlt ht (by omega)
  rw [List.map_cons, List.map_cons, List.map_cons, jv_r B b h0, jv_i, jv_l]
  refine W.last hx hb ha ((hK.2.1 21 (by omega) (by omega)).1 _ _) (fun q => by cases q) (by rw [arrV_size]; exact j32_vin hi0 gi.2 hi) rfl rfl hd fun H1 e z oq => ?_
  rw [j32_clamp hi0 gi.2] at e ⊢
  refine kk H1 _ ls (hH.wr z oq ?_) (jS_put hS z oq) hL g3
  rw [ht]
  exact ⟨jcok_set hc ⟨g1, fun q => by omega, fun q => by omega, fun q => by omega, fun q => by cases q⟩, Or.inr ⟨by omega, by omega, e.trans (congrArg some (jarr_upd rfl _))⟩⟩
theorem jx_bast (hx : p.tables.exec = Jvm.exec) (hb : c.code = cc) (hK : jK D cA s) {pc : Nat} {L S : List AV} {h : JH} {cu su : Nat} {r i v : Int} (h0 : 0 ≤ r) (hlt : r.toNat < h.1) (ht : (h.2.1 r.toNat).1 = 22) (hi0 : 0 ≤ i) (hi : i.toNat < (h.2.1 r.toNat).2) (hd : decode cc pc = .ok (.bastore, 1)) (kk : jXW p l e R s m args below meth c Q D cA B b (pc + 1) L S (jwr h r.toNat i.toNat (w8 v)) cu su) : jXW p l e R s m args below meth c Q D cA B b pc L ((0, v) :: (0, i) :: (2, r) :: S) h cu su := by
  intro H locs ls hH hS hL hs
  obtain ⟨g1, hs⟩ := jms1 hs
  obtain ⟨g4, g2, g3⟩ := jms2 hs
  have gi := jok_i.mp g4
  have gv := jok_i.mp g1
  have g8 := jw8_in v
  obtain ⟨-, ha, hc⟩ := jarr hH hlt ht (by omega)
  rw [List.map_cons, List.map_cons, List.map_cons, jv_r B b h0, jv_i, jv_i]
  refine W.bast hx hb ha ((hK.2.1 22 (by omega) (by omega)).1 _ _) (fun q => by cases q) (by rw [arrV_size]; exact j32_vin hi0 gi.2 hi) rfl rfl hd fun H1 e z oq => ?_
  rw [j32_clamp hi0 gi.2] at e ⊢
  refine kk H1 _ ls (hH.wr z oq ?_) (jS_put hS z oq) hL g3
  rw [ht]
  refine ⟨jcok_set hc ⟨jok_i.mpr (by omega), fun q => by omega, fun q => by omega, fun q => by omega, fun q => by cases q⟩, Or.inr ⟨by omega, by omega, ?_⟩⟩
  rw [e, jarr_upd (x := w8 v)]
  show Value.int (Int32.ofInt v).toInt8.toInt32 = .int (Int32.ofInt (w8 v))
  rw [j32_8 gv.1 gv.2]
theorem jbool (v : Int) : Int32.ofInt v &&& 1 = Int32.ofInt (v % 2) := by
  apply Int32.toBitVec_inj.mp
  apply BitVec.eq_of_toNat_eq
  rw [Int32.toBitVec_and, Int32.toBitVec_ofInt, Int32.toBitVec_ofInt, BitVec.toNat_and, BitVec.toNat_ofInt, BitVec.toNat_ofInt]
  rw [show (1 : Int32).toBitVec.toNat = 1 from rfl, Nat.and_one_is_mod]
  omega
theorem jx_zast (hx : p.tables.exec = Jvm.exec) (hb : c.code = cc) (hK : jK D cA s) {pc : Nat} {L S : List AV} {h : JH} {cu su : Nat} {r i v : Int} (h0 : 0 ≤ r) (hlt : r.toNat < h.1) (ht : (h.2.1 r.toNat).1 = 23) (hi0 : 0 ≤ i) (hi : i.toNat < (h.2.1 r.toNat).2) (hd : decode cc pc = .ok (.bastore, 1)) (kk : jXW p l e R s m args below meth c Q D cA B b (pc + 1) L S (jwr h r.toNat i.toNat (v % 2)) cu su) : jXW p l e R s m args below meth c Q D cA B b pc L ((0, v) :: (0, i) :: (2, r) :: S) h cu su := by
  intro H locs ls hH hS hL hs
  obtain ⟨g1, hs⟩ := jms1 hs
  obtain ⟨g4, g2, g3⟩ := jms2 hs
  have gi := jok_i.mp g4
  obtain ⟨-, ha, hc⟩ := jarr hH hlt ht (by omega)
  rw [List.map_cons, List.map_cons, List.map_cons, jv_r B b h0, jv_i, jv_i]
  refine W.zast hx hb ha ((hK.2.1 23 (by omega) (by omega)).1 _ _) (fun q => by cases q) (by rw [arrV_size]; exact j32_vin hi0 gi.2 hi) rfl rfl hd fun H1 e z oq => ?_
  rw [j32_clamp hi0 gi.2] at e ⊢
  refine kk H1 _ ls (hH.wr z oq ?_) (jS_put hS z oq) hL g3
  rw [ht]
  refine ⟨jcok_set hc ⟨jok_i.mpr (by omega), fun q => by omega, fun q => by omega, fun q => by omega, fun q => by cases q⟩, Or.inr ⟨by omega, by omega, ?_⟩⟩
  rw [e, jarr_upd (x := v % 2)]
  show Value.int (Int32.ofInt v &&& 1) = .int (Int32.ofInt (v % 2))
  rw [jbool]
end JM
end
section
/-! methods, calls, and what the tables say of each instruction -/
abbrev JM : Type := Nat × Nat
def jexp : List AV → List AV
  | [] => []
  | v :: r => if v.1 = 1 then v :: (9, 0) :: jexp r else v :: jexp r
def jentry (a : List AV) (n : Nat) : List AV := jexp a ++ List.replicate (n - (jexp a).length) (9, 0)
def jwid (S : List AV) : Nat := (S.map fun v => if v.1 = 1 then 2 else 1).sum
/-- which method is called, with what, and what stays on the stack -/
def jcall : List JE → List AV → JH → Option (Nat × List AV × List AV)
  | (pc, i, n, ps, z) :: K, S, h => match i with
    | .invokestatic _ => if (jhd ps = 0 ∨ jhd ps = 2) ∧ ps.getD 1 0 ≤ S.length ∧ jwid (S.drop (ps.getD 1 0)) ≤ 8 then some (ps.getD 2 0, (S.take (ps.getD 1 0)).reverse, S.drop (ps.getD 1 0)) else none
    | .invokespecial _ => (match S[ps.getD 1 0]? with
      | some v => if (jhd ps = 1 ∨ jhd ps = 3) ∧ v.1 = 2 ∧ 0 ≤ v.2 ∧ jwid (S.drop (ps.getD 1 0 + 1)) ≤ 8 then some (ps.getD 2 0, v :: (S.take (ps.getD 1 0)).reverse, S.drop (ps.getD 1 0 + 1)) else none
      | none => none)
    | .invokevirtual _ => (match S[ps.getD 1 0]? with
      | some v => if jhd ps = 5 ∧ v.1 = 2 ∧ 0 ≤ v.2 ∧ v.2.toNat < h.1 ∧ (h.2.1 v.2.toNat).1 = ps.getD 3 0 ∧ jwid (S.drop (ps.getD 1 0 + 1)) ≤ 8 then some (ps.getD 2 0, v :: (S.take (ps.getD 1 0)).reverse, S.drop (ps.getD 1 0 + 1)) else none
      | none => none)
    | _ => none
  | [], _, _ => none
/-- what is made stays within bounds -/
def jlim (mc ms : Nat) (st st' : JS) : Prop := (st'.2.2.2.2.1 = st.2.2.2.2.1 ∧ st'.2.2.2.2.2 = st.2.2.2.2.2) ∨ (st'.2.2.2.2.1 ≤ mc ∧ st'.2.2.2.2.2 ≤ ms)
/-- the simple machine's runs: from st it comes to a return with Q; calls by what 'ok' says of them -/
def jEv (ok : Nat → Nat → Nat → List AV → JH → (Option AV → JH → Prop) → Prop) (xl : Option Nat) (xs : Nat → Int) (cd : List JE) (mc ms : Nat) (Q : Option AV → JH → Prop) (st : JS) : Prop :=
  ∀ X : JS → Prop,
    (∀ st st' : JS, jstep xl xs cd st = some st' → jlim mc ms st st' → X st' → X st) →
    (∀ (K : List JE) (L S : List AV) (h : JH) (cu su : Nat) (v : Option AV), jret K S = some v → cu ≤ mc → su ≤ ms → Q v h → X (K, L, S, h, cu, su)) →
    (∀ (K : List JE) (L S : List AV) (h : JH) (cu su k : Nat) (as S' : List AV) (a b : Nat) (Q' : Option AV → JH → Prop), jcall K S h = some (k, as, S') → ok a b k as h Q' → cu + a ≤ mc → su + b ≤ ms →
      (∀ (v : Option AV) (h' : JH), Q' v h' → X (K.tail, L, v.toList ++ S', h', cu + a, su + b)) → X (K, L, S, h, cu, su)) → X st
end
section
def jadj : List JE → Bool
  | [] => true
  | e :: r => (match r with
    | [] => true
    | e' :: _ => e'.1 == e.1 + e.2.2.1) && jadj r
/-! an instruction is decoded out of its own bytes: what stands around them doesn't matter (but for the switches) -/
def jAg {α : Type} (b b' : ByteArray) (pc : Nat) (d d' : Decoder α) : Prop := ∀ (k : Nat) (v : α) (k' : Nat), d' b' k = .ok (v, k') → d b (pc + k) = .ok (v, pc + k')
section JAg
variable {b b' : ByteArray} {pc : Nat}
theorem jag_pure {α : Type} (a : α) : jAg b b' pc (pure a) (pure a) := by
  intro k v k' h
  cases h
  rfl
theorem jag_throw {α : Type} (x y : DecodeError) : jAg (α := α) b b' pc (throw x) (throw y) := by
  intro k v k' h
  cases h
theorem jag_bind {α β : Type} {d d' : Decoder α} {f f' : α → Decoder β} (h1 : jAg b b' pc d d') (h2 : ∀ a, jAg b b' pc (f a) (f' a)) : jAg b b' pc (d >>= f) (d' >>= f') := by
  intro k v k' h
  have e1 : (d' >>= f') b' k = (match d' b' k with
    | .error x => .error x
    | .ok (a, p) => f' a b' p) := by
    show (StateT.bind (d' b') (fun a => f' a b')) k = _
    unfold StateT.bind
    cases d' b' k with
    | error x => rfl
    | ok q => rfl
  rw [e1] at h
  have e2 : (d >>= f) b (pc + k) = (match d b (pc + k) with
    | .error x => .error x
    | .ok (a, p) => f a b p) := by
    show (StateT.bind (d b) (fun a => f a b)) (pc + k) = _
    unfold StateT.bind
    cases d b (pc + k) with
    | error x => rfl
    | ok q => rfl
  rw [e2]
  cases hd : d' b' k with
  | error x => rw [hd] at h; cases h
  | ok q =>
    obtain ⟨a, p⟩ := q
    rw [hd] at h
    rw [h1 k a p hd]
    exact h2 a p v k' h
theorem ju1_eq (B : ByteArray) (p : Nat) : (Reader.u1 : Decoder Nat) B p = if hp : p < B.size then .ok ((B[p]'hp).toNat, p + 1) else .error (HasTruncated.truncated p) := by
  unfold Reader.u1
  by_cases hp : p < B.size
  · rw [dif_pos hp]
    simp [StateT.bind, bind, Except.bind, MonadReader.read, readThe, MonadReaderOf.read, ReaderT.read, get, getThe, MonadStateOf.get, StateT.get, liftM, monadLift, MonadLift.monadLift, ReaderT.bind, ReaderT.pure, StateT.pure, Pure.pure, Except.pure, set, MonadStateOf.set, StateT.set, throw, throwThe, MonadExceptOf.throw, StateT.lift, hp]
  · rw [dif_neg hp]
    simp [StateT.bind, bind, Except.bind, MonadReader.read, readThe, MonadReaderOf.read, ReaderT.read, get, getThe, MonadStateOf.get, StateT.get, liftM, monadLift, MonadLift.monadLift, ReaderT.bind, ReaderT.pure, StateT.pure, Pure.pure, Except.pure, set, MonadStateOf.set, StateT.set, throw, throwThe, MonadExceptOf.throw, StateT.lift, hp]
theorem jag_u1 (hH : ∀ k, k < b'.size → b.data.toList[pc + k]? = b'.data.toList[k]?) : jAg b b' pc Reader.u1 Reader.u1 := by
  intro k v k' h
  rw [ju1_eq] at h ⊢
  by_cases hp : k < b'.size
  · rw [dif_pos hp] at h
    have hk := hH k hp
    have hp' : k < b'.data.toList.length := by simpa using hp
    rw [List.getElem?_eq_getElem hp'] at hk
    obtain ⟨hb, he⟩ := List.getElem?_eq_some_iff.mp hk
    have hb' : pc + k < b.size := by simpa using hb
    rw [dif_pos hb']
    injection h with h
    injection h with h1 h2
    subst h1
    subst h2
    congr 2
    have e1 : b[pc + k]'hb' = b.data.toList[pc + k]'hb := by simp [ByteArray.getElem_eq_getElem_data]
    have e2 : b'[k]'hp = b'.data.toList[k]'hp' := by simp [ByteArray.getElem_eq_getElem_data]
    rw [e1, e2, he]
  · rw [dif_neg hp] at h
    cases h
theorem jag_map {α β : Type} {d d' : Decoder α} (f : α → β) (h : jAg b b' pc d d') : jAg b b' pc (f <$> d) (f <$> d') := jag_bind (f := fun a => pure (f a)) (f' := fun a => pure (f a)) h (fun a => jag_pure (f a))
theorem jag_u2 (hH : ∀ k, k < b'.size → b.data.toList[pc + k]? = b'.data.toList[k]?) : jAg b b' pc Reader.u2 Reader.u2 := jag_bind (jag_u1 hH) (fun _ => jag_bind (jag_u1 hH) (fun _ => jag_pure _))
theorem jag_s1 (hH : ∀ k, k < b'.size → b.data.toList[pc + k]? = b'.data.toList[k]?) : jAg b b' pc Reader.s1 Reader.s1 := jag_map _ (jag_u1 hH)
theorem jag_s2 (hH : ∀ k, k < b'.size → b.data.toList[pc + k]? = b'.data.toList[k]?) : jAg b b' pc Reader.s2 Reader.s2 := jag_map _ (jag_u2 hH)
theorem jag_newarray (hH : ∀ k, k < b'.size → b.data.toList[pc + k]? = b'.data.toList[k]?) (q q' : Nat) : jAg b b' pc (Decoder.newarray q) (Decoder.newarray q') := by
  refine jag_bind (jag_u1 hH) (fun op => ?_)
  split <;> first | exact jag_pure _ | exact jag_throw _ _
end JAg
def jops : List Nat := [1, 2, 3, 4, 5, 6, 7, 8, 9, 10, 16, 17, 18, 19, 20, 21, 22, 25, 26, 27, 28, 29, 30, 31, 32, 33, 42, 43, 44, 45, 46, 47, 50, 51, 54, 55, 58, 59, 60, 61, 62, 63, 64, 65, 66, 75, 76, 77, 78, 79, 80, 83, 84, 87, 88, 89, 92, 96, 97, 100, 101, 104, 105, 108, 109, 112, 113, 116, 117, 120, 121, 122, 124, 125, 126, 127, 128, 129, 130, 131, 132, 133, 136, 145, 147, 148, 153, 154, 155, 156, 157, 158, 159, 160, 161, 162, 163, 164, 167, 172, 173, 176, 177, 180, 181, 182, 183, 184, 187, 188, 189, 190, 193, 198, 199]
def jplain (op : Nat) : Bool := jops.contains op
section JAg2
variable {b b' : ByteArray} {pc : Nat}
def jAt {α : Type} (b b' : ByteArray) (pc k : Nat) (d d' : Decoder α) : Prop := ∀ (v : α) (k' : Nat), d' b' k = .ok (v, k') → d b (pc + k) = .ok (v, pc + k')
theorem jat_bind {α β : Type} {k : Nat} {d d' : Decoder α} {f f' : α → Decoder β} (h1 : jAt b b' pc k d d') (h2 : ∀ a p, d' b' k = .ok (a, p) → jAt b b' pc p (f a) (f' a)) : jAt b b' pc k (d >>= f) (d' >>= f') := by
  intro v k' h
  have e1 : (d' >>= f') b' k = (match d' b' k with
    | .error x => .error x
    | .ok (a, p) => f' a b' p) := by
    show (StateT.bind (d' b') (fun a => f' a b')) k = _
    unfold StateT.bind
    cases d' b' k with
    | error x => rfl
    | ok q => rfl
  rw [e1] at h
  have e2 : (d >>= f) b (pc + k) = (match d b (pc + k) with
    | .error x => .error x
    | .ok (a, p) => f a b p) := by
    show (StateT.bind (d b) (fun a => f a b)) (pc + k) = _
    unfold StateT.bind
    cases d b (pc + k) with
    | error x => rfl
    | ok q => rfl
  rw [e2]
  cases hd : d' b' k with
  | error x => rw [hd] at h; cases h
  | ok q =>
    obtain ⟨a, p⟩ := q
    rw [hd] at h
    rw [h1 a p hd]
    exact h2 a p hd v k' h
set_option maxRecDepth 100000 in
set_option maxHeartbeats 8000000 in
theorem jat_instr (hH : ∀ k, k < b'.size → b.data.toList[pc + k]? = b'.data.toList[k]?) (q q' k : Nat) (hop : ∀ a p, (Reader.u1 : Decoder Nat) b' k = .ok (a, p) → jplain a = true) : jAt b b' pc k (Decoder.instr q) (Decoder.instr q') := by
  refine jat_bind (fun v k' h => jag_u1 hH k v k' h) (fun op p hp => ?_)
  have hpl := hop op p hp
  clear hp hop
  simp only [jplain, jops, List.contains_cons, List.contains_nil, Bool.or_false, Bool.or_eq_true, beq_iff_eq] at hpl
  rcases hpl with rfl | rfl | rfl | rfl | rfl | rfl | rfl | rfl | rfl | rfl | rfl | rfl | rfl | rfl | rfl | rfl | rfl | rfl | rfl | rfl | rfl | rfl | rfl | rfl | rfl | rfl | rfl | rfl | rfl | rfl | rfl | rfl | rfl | rfl | rfl | rfl | rfl | rfl | rfl | rfl | rfl | rfl | rfl | rfl | rfl | rfl | rfl | rfl | rfl | rfl | rfl | rfl | rfl | rfl | rfl | rfl | rfl | rfl | rfl | rfl | rfl | rfl | rfl | rfl | rfl | rfl | rfl | rfl | rfl | rfl | rfl | rfl | rfl | rfl | rfl | rfl | rfl | rfl | rfl | rfl | rfl | rfl | rfl | rfl | rfl | rfl | rfl | rfl | rfl | rfl | rfl | rfl | rfl | rfl | rfl | rfl | rfl | rfl | rfl | rfl | rfl | rfl | rfl | rfl | rfl | rfl | rfl | rfl | rfl | rfl | rfl | rfl | rfl | rfl | rfl
  all_goals first
    | exact fun v k' h => jag_pure _ p v k' h
    | exact fun v k' h => jag_bind (jag_u1 hH) (fun _ => jag_pure _) p v k' h
    | exact fun v k' h => jag_bind (jag_s1 hH) (fun _ => jag_pure _) p v k' h
    | exact fun v k' h => jag_bind (jag_u2 hH) (fun _ => jag_pure _) p v k' h
    | exact fun v k' h => jag_bind (jag_s2 hH) (fun _ => jag_pure _) p v k' h
    | exact fun v k' h => jag_bind (jag_u1 hH) (fun _ => jag_bind (jag_s1 hH) (fun _ => jag_pure _)) p v k' h
    | exact fun v k' h => jag_newarray hH _ _ p v k' h
    | exact fun v k' h => jag_throw _ _ p v k' h
end JAg2
end
section
theorem jdecode_eq (b : ByteArray) (pc : Nat) : decode b pc = (match Decoder.instr pc b pc with
    | Except.error x => Except.error x
    | Except.ok q => Except.ok (q.1, q.2 - pc)) := by
  show Except.bind (Decoder.instr pc b pc) _ = _
  cases Decoder.instr pc b pc with
  | error x => rfl
  | ok q => rfl
def jslice (l : List UInt8) (n : Nat) : ByteArray := ⟨(l.take n).toArray⟩
def jisw (i : Instr) : Bool := match i with
  | .tableswitch _ _ _ _ => true
  | _ => false
def jchkD (bytes : ByteArray) (pc : Nat) (e : JE) : Bool := match decode bytes pc with
  | .ok (i, n) => decide (i = e.2.1) && n == e.2.2.1
  | .error _ => false
theorem jchkD_ok {bytes : ByteArray} {pc : Nat} {e : JE} (h : jchkD bytes pc e = true) : decode bytes pc = .ok (e.2.1, e.2.2.1) := by
  unfold jchkD at h
  cases hx : decode bytes pc with
  | error x => rw [hx] at h; cases h
  | ok x =>
    obtain ⟨i, n⟩ := x
    rw [hx] at h
    simp only [Bool.and_eq_true, decide_eq_true_eq, beq_iff_eq] at h
    rw [h.1, h.2]
def jfst (l : List UInt8) : Bool := match l with
  | x :: _ => jplain x.toNat
  | [] => false
/-- the bytes from a place on, beside the code from there on -/
def jwalk (bytes : ByteArray) : List JE → List UInt8 → Bool
  | [], _ => true
  | e :: r, l => (if jisw e.2.1 = true then jchkD bytes e.1 e else jchkD (jslice l e.2.2.1) 0 e && jfst l && e.2.2.1 != 0) && jwalk bytes r (l.drop e.2.2.1)
theorem jdec_at {bytes : ByteArray} {pc : Nat} {l : List UInt8} {e : JE} (hl : l = bytes.data.toList.drop pc) (h : jchkD (jslice l e.2.2.1) 0 e = true) (hf : jfst l = true) (hn : e.2.2.1 ≠ 0) : decode bytes pc = .ok (e.2.1, e.2.2.1) := by
  have h1 := jchkD_ok h
  have hH : ∀ k, k < (jslice l e.2.2.1).size → bytes.data.toList[pc + k]? = (jslice l e.2.2.1).data.toList[k]? := by
    intro k hk
    have hk2 : k < (l.take e.2.2.1).length := by
      have : (jslice l e.2.2.1).size = (l.take e.2.2.1).length := by
        show (jslice l e.2.2.1).data.size = _
        simp [jslice]
      rw [this] at hk
      exact hk
    show _ = (l.take e.2.2.1).toArray.toList[k]?
    rw [List.toList_toArray, List.getElem?_take_of_lt (by rw [List.length_take] at hk2; omega), hl, List.getElem?_drop]
  rw [jdecode_eq] at h1 ⊢
  have hk := jat_instr hH pc 0 0 (fun a p hu => by
    rw [ju1_eq] at hu
    split at hu
    · rename_i hs
      injection hu with hu
      injection hu with hu1 hu2
      subst hu1
      match l, hf with
      | x :: r, hf =>
        have : (jslice (x :: r) e.2.2.1)[0] = x := by
          obtain ⟨n', hn'⟩ := Nat.exists_eq_succ_of_ne_zero hn
          simp [jslice, ByteArray.getElem_eq_getElem_data, hn']
        rw [this]
        exact hf
    · cases hu)
  cases hi : Decoder.instr 0 (jslice l e.2.2.1) 0 with
  | error x =>
    rw [hi] at h1
    cases h1
  | ok q =>
    obtain ⟨i, nx⟩ := q
    rw [hi] at h1
    have h3 := hk i nx hi
    rw [Nat.add_zero] at h3
    rw [h3]
    injection h1 with h2
    injection h2 with h4 h5
    show Except.ok (i, pc + nx - pc) = Except.ok (e.2.1, e.2.2.1)
    simp only at h4 h5
    rw [← h4, ← h5]
    congr 2
    omega
theorem jwalk_ok {bytes : ByteArray} : ∀ (cd : List JE) (l : List UInt8), jwalk bytes cd l = true → l = bytes.data.toList.drop (jpc cd) → jadj cd = true → ∀ e ∈ cd, decode bytes e.1 = .ok (e.2.1, e.2.2.1) := by
  intro cd
  induction cd with
  | nil => intro l _ _ _ e he; cases he
  | cons x r ih =>
    intro l hw hl ha e he
    simp only [jwalk, Bool.and_eq_true] at hw
    have hl' : l = bytes.data.toList.drop x.1 := hl
    have ha' : jadj r = true := by
      simp only [jadj, Bool.and_eq_true] at ha
      exact ha.2
    rcases List.mem_cons.mp he with e1 | e1
    · subst e1
      have h1 := hw.1
      split at h1
      · exact jchkD_ok h1
      · simp only [Bool.and_eq_true, bne_iff_ne] at h1
        exact jdec_at hl' h1.1.1 h1.1.2 h1.2
    · refine ih (l.drop x.2.2.1) hw.2 ?_ ha' e e1
      match r, e1 with
      | y :: r', _ =>
        simp only [jadj, Bool.and_eq_true, beq_iff_eq] at ha
        show _ = bytes.data.toList.drop y.1
        rw [hl', List.drop_drop, ha.1]
end
section
/-! 0 SueOrSettle$End.<init>(LSueOrSettle$Sense;II)V -/
def c0_0 : List JE := (0, .aload_n 0, 1, [], 0) :: (1, .invokespecial 1, 3, [6, 1148, 1023, 1024], 0) :: (4, .aload_n 0, 1, [], 0) :: (5, .aload_n 1, 1, [], 0) :: (6, .putfield 7, 3, [0, 0, 1149, 0], 0) :: (9, .aload_n 0, 1, [], 0) :: (10, .iload_n 2, 1, [], 0) :: (11, .putfield 13, 3, [0, 1, 1160, 0], 0) :: (14, .aload_n 0, 1, [], 0) :: (15, .iload_n 3, 1, [], 0) :: (16, .putfield 17, 3, [0, 2, 1161, 0], 0) :: (19, .return_, 1, [], 0) :: []
/-! 1 SueOrSettle$End.kind()I -/
def c1_0 : List JE := (0, .iconst 0, 1, [], 0) :: (1, .ireturn, 1, [], 0) :: []
/-! 2 SueOrSettle$End.measure(I)I -/
def c2_0 : List JE := (0, .bipush 100, 2, [], 0) :: (2, .iload_n 1, 1, [], 0) :: (3, .imul, 1, [], 0) :: (4, .ireturn, 1, [], 0) :: []
/-! 3 SueOrSettle$End.fearsWorst()Z -/
def c3_0 : List JE := (0, .iconst 0, 1, [], 0) :: (1, .ireturn, 1, [1], 0) :: []
/-! 4 SueOrSettle$End.regrets()Z -/
def c4_0 : List JE := (0, .iconst 0, 1, [], 0) :: (1, .ireturn, 1, [1], 0) :: []
/-! 5 SueOrSettle$End.pays(I)I -/
def c5_0 : List JE := (0, .aload_n 0, 1, [], 0) :: (1, .getfield 7, 3, [0, 0, 1149, 0], 0) :: (4, .iconst 1, 1, [], 0) :: (5, .invokevirtual 20, 3, [5, 1, 94, 7, 6067, 6056, 6057, 1004], 0) :: (8, .iload_n 1, 1, [], 0) :: (9, .aload_n 0, 1, [], 0) :: (10, .getfield 13, 3, [0, 1, 1160, 0], 0) :: (13, .iadd, 1, [], 0) :: (14, .ireturn, 1, [], 0) :: []
/-! 6 SueOrSettle$End.feels(I)I -/
def c6_0 : List JE := (0, .aload_n 0, 1, [], 0) :: (1, .getfield 7, 3, [0, 0, 1149, 0], 0) :: (4, .bipush 10, 2, [], 0) :: (6, .invokevirtual 20, 3, [5, 1, 94, 7, 6067, 6056, 6057, 1004], 0) :: (9, .aload_n 0, 1, [], 0) :: (10, .iload_n 1, 1, [], 0) :: (11, .invokevirtual 26, 3, [9, 1], 0) :: (14, .iconst 2, 1, [], 0) :: (15, .imul, 1, [], 0) :: (16, .ireturn, 1, [], 0) :: []
/-! 7 SueOrSettle$End.fears(I)I -/
def c7_0 : List JE := (0, .aload_n 0, 1, [], 0) :: (1, .getfield 7, 3, [0, 0, 1149, 0], 0) :: (4, .bipush 11, 2, [], 0) :: (6, .invokevirtual 20, 3, [5, 1, 94, 7, 6067, 6056, 6057, 1004], 0) :: (9, .iload_n 1, 1, [], 0) :: (10, .aload_n 0, 1, [], 0) :: (11, .getfield 13, 3, [0, 1, 1160, 0], 0) :: (14, .ixor, 1, [], 0) :: (15, .ireturn, 1, [], 0) :: []
/-! 8 SueOrSettle$End.tells(I)I -/
def c8_0 : List JE := (0, .aload_n 0, 1, [], 0) :: (1, .getfield 7, 3, [0, 0, 1149, 0], 0) :: (4, .iconst 2, 1, [], 0) :: (5, .invokevirtual 20, 3, [5, 1, 94, 7, 6067, 6056, 6057, 1004], 0) :: (8, .aload_n 0, 1, [], 0) :: (9, .iload_n 1, 1, [], 0) :: (10, .invokevirtual 30, 3, [9, 1], 0) :: (13, .aload_n 0, 1, [], 0) :: (14, .iconst 1, 1, [], 0) :: (15, .invokevirtual 33, 3, [9, 1], 0) :: (18, .isub, 1, [], 0) :: (19, .ireturn, 1, [], 0) :: []
/-! 9 SueOrSettle$Felt.<init>(LSueOrSettle$Sense;II)V -/
def c9_0 : List JE := (0, .aload_n 0, 1, [], 0) :: (1, .aload_n 1, 1, [], 0) :: (2, .iload_n 2, 1, [], 0) :: (3, .iload_n 3, 1, [], 0) :: (4, .invokespecial 1, 3, [1, 3, 0, 3197, 1146, 1005], 0) :: (7, .return_, 1, [], 0) :: []
/-! 10 SueOrSettle$Felt.kind()I -/
def c10_0 : List JE := (0, .iconst 1, 1, [], 0) :: (1, .ireturn, 1, [], 0) :: []
/-! 11 SueOrSettle$Felt.measure(I)I -/
def c11_0 : List JE := (0, .aload_n 0, 1, [], 0) :: (1, .getfield 7, 3, [0, 0, 1150, 1151], 0) :: (4, .iload_n 1, 1, [], 0) :: (5, .invokevirtual 13, 3, [5, 1, 91, 7, 4029, 4030, 4031, 1004], 0) :: (8, .ireturn, 1, [], 0) :: []
/-! 12 SueOrSettle$Felt.feels(I)I -/
def c12_0 : List JE := (0, .aload_n 0, 1, [], 0) :: (1, .getfield 7, 3, [0, 0, 1150, 1151], 0) :: (4, .bipush 20, 2, [], 0) :: (6, .invokevirtual 19, 3, [5, 1, 94, 7, 6075, 6056, 6057, 1004], 0) :: (9, .aload_n 0, 1, [], 0) :: (10, .iload_n 1, 1, [], 0) :: (11, .invokespecial 23, 3, [4, 1, 6], 0) :: (14, .iconst 1, 1, [], 0) :: (15, .isub, 1, [], 0) :: (16, .ireturn, 1, [], 0) :: []
/-! 13 SueOrSettle$Least.<init>(LSueOrSettle$Sense;II)V -/
def c13_0 : List JE := (0, .aload_n 0, 1, [], 0) :: (1, .aload_n 1, 1, [], 0) :: (2, .iload_n 2, 1, [], 0) :: (3, .iload_n 3, 1, [], 0) :: (4, .invokespecial 1, 3, [1, 3, 0, 3207, 1146, 1005], 0) :: (7, .return_, 1, [], 0) :: []
/-! 14 SueOrSettle$Least.kind()I -/
def c14_0 : List JE := (0, .iconst 2, 1, [], 0) :: (1, .ireturn, 1, [], 0) :: []
/-! 15 SueOrSettle$Least.fearsWorst()Z -/
def c15_0 : List JE := (0, .iconst 1, 1, [], 0) :: (1, .ireturn, 1, [1], 0) :: []
/-! 16 SueOrSettle$Least.fears(I)I -/
def c16_0 : List JE := (0, .aload_n 0, 1, [], 0) :: (1, .getfield 7, 3, [0, 0, 1158, 1159], 0) :: (4, .bipush 30, 2, [], 0) :: (6, .invokevirtual 13, 3, [5, 1, 94, 7, 6096, 6056, 6057, 1004], 0) :: (9, .aload_n 0, 1, [], 0) :: (10, .iload_n 1, 1, [], 0) :: (11, .invokespecial 19, 3, [4, 1, 7], 0) :: (14, .iconst 3, 1, [], 0) :: (15, .imul, 1, [], 0) :: (16, .ireturn, 1, [], 0) :: []
/-! 17 SueOrSettle$Part.<init>(LSueOrSettle$Sense;II)V -/
def c17_0 : List JE := (0, .aload_n 0, 1, [], 0) :: (1, .aload_n 1, 1, [], 0) :: (2, .iload_n 2, 1, [], 0) :: (3, .iload_n 3, 1, [], 0) :: (4, .invokespecial 1, 3, [1, 3, 0, 3227, 1146, 1005], 0) :: (7, .return_, 1, [], 0) :: []
/-! 18 SueOrSettle$Part.kind()I -/
def c18_0 : List JE := (0, .iconst 4, 1, [], 0) :: (1, .ireturn, 1, [], 0) :: []
/-! 19 SueOrSettle$Part.measure(I)I -/
def c19_0 : List JE := (0, .aload_n 0, 1, [], 0) :: (1, .getfield 7, 3, [0, 2, 1162, 1163], 0) :: (4, .iload_n 1, 1, [], 0) :: (5, .imul, 1, [], 0) :: (6, .ireturn, 1, [], 0) :: []
/-! 20 SueOrSettle$Part.pays(I)I -/
def c20_0 : List JE := (0, .aload_n 0, 1, [], 0) :: (1, .getfield 13, 3, [0, 0, 1152, 1153], 0) :: (4, .bipush 50, 2, [], 0) :: (6, .invokevirtual 17, 3, [5, 1, 94, 7, 6055, 6056, 6057, 1004], 0) :: (9, .aload_n 0, 1, [], 0) :: (10, .iload_n 1, 1, [], 0) :: (11, .invokespecial 23, 3, [4, 1, 5], 0) :: (14, .aload_n 0, 1, [], 0) :: (15, .getfield 7, 3, [0, 2, 1162, 1163], 0) :: (18, .iadd, 1, [], 0) :: (19, .ireturn, 1, [], 0) :: []
/-! 21 SueOrSettle$Quarrel.<init>(I)V -/
def c21_0 : List JE := (0, .aload_n 0, 1, [], 0) :: (1, .invokespecial 3, 3, [6, 3040, 1023, 1024], 0) :: (4, .aload_n 0, 1, [], 0) :: (5, .iconst 0, 1, [], 0) :: (6, .putfield 9, 3, [4, 0, 3042, 0], 0) :: (9, .aload_n 0, 1, [], 0) :: (10, .iconst (-1), 1, [], 0) :: (11, .putfield 15, 3, [4, 1, 3044, 0], 0) :: (14, .iconst 1, 1, [], 0) :: (15, .iload_n 1, 1, [], 0) :: (16, .invokestatic 18, 3, [0, 2, 379, 3041, 3004, 1010], 0) :: (19, .istore_n 2, 1, [], 0) :: (20, .aload_n 0, 1, [], 0) :: (21, .iload_n 2, 1, [], 0) :: (22, .newarray .int, 2, [], 0) :: (24, .putfield 24, 3, [4, 2, 3046, 0], 0) :: (27, .aload_n 0, 1, [], 0) :: (28, .iload_n 2, 1, [], 0) :: (29, .newarray .int, 2, [], 0) :: (31, .putfield 28, 3, [4, 3, 3047, 0], 0) :: (34, .aload_n 0, 1, [], 0) :: (35, .iload_n 2, 1, [], 0) :: (36, .newarray .int, 2, [], 0) :: (38, .putfield 31, 3, [4, 4, 3048, 0], 0) :: (41, .aload_n 0, 1, [], 0) :: (42, .iconst 4, 1, [], 0) :: (43, .iload_n 2, 1, [], 0) :: (44, .imul, 1, [], 0) :: (45, .newarray .int, 2, [], 0) :: (47, .putfield 34, 3, [4, 5, 3049, 0], 0) :: (50, .aload_n 0, 1, [], 0) :: (51, .iconst 4, 1, [], 0) :: (52, .iload_n 2, 1, [], 0) :: (53, .imul, 1, [], 0) :: (54, .newarray .int, 2, [], 0) :: (56, .putfield 37, 3, [4, 6, 3050, 0], 0) :: (59, .aload_n 0, 1, [], 0) :: (60, .iload_n 2, 1, [], 0) :: (61, .newarray .int, 2, [], 0) :: (63, .putfield 40, 3, [4, 7, 3051, 0], 0) :: (66, .aload_n 0, 1, [], 0) :: (67, .iload_n 2, 1, [], 0) :: (68, .newarray .int, 2, [], 0) :: (70, .putfield 43, 3, [4, 8, 3052, 0], 0) :: (73, .aload_n 0, 1, [], 0) :: (74, .iload_n 2, 1, [], 0) :: (75, .newarray .int, 2, [], 0) :: (77, .putfield 46, 3, [4, 9, 3053, 0], 0) :: (80, .aload_n 0, 1, [], 0) :: (81, .iload_n 2, 1, [], 0) :: (82, .newarray .int, 2, [], 0) :: (84, .putfield 49, 3, [4, 10, 3054, 0], 0) :: (87, .aload_n 0, 1, [], 0) :: (88, .iload_n 2, 1, [], 0) :: (89, .newarray .int, 2, [], 0) :: (91, .putfield 52, 3, [4, 11, 3055, 0], 0) :: (94, .aload_n 0, 1, [], 0) :: (95, .iload_n 2, 1, [], 0) :: (96, .newarray .long, 2, [], 0) :: (98, .putfield 55, 3, [4, 12, 3056, 0], 0) :: (101, .aload_n 0, 1, [], 0) :: (102, .iload_n 2, 1, [], 0) :: (103, .newarray .boolean, 2, [], 0) :: (105, .putfield 59, 3, [4, 13, 3057, 0], 0) :: (108, .return_, 1, [], 0) :: []
/-! 22 SueOrSettle$Quarrel.addNode(IIII)I -/
def c22_71 : List JE := (71, .aload_n 0, 1, [], 0) :: (72, .dup, 1, [], 0) :: (73, .getfield 9, 3, [4, 0, 3042, 0], 0) :: (76, .iconst 1, 1, [], 0) :: (77, .iadd, 1, [], 0) :: (78, .putfield 9, 3, [4, 0, 3042, 0], 0) :: (81, .iload 5, 2, [], 0) :: (83, .ireturn, 1, [], 0) :: []
def c22_14 : List JE := (14, .aload_n 0, 1, [], 0) :: (15, .getfield 9, 3, [4, 0, 3042, 0], 0) :: (18, .istore 5, 2, [], 0) :: (20, .aload_n 0, 1, [], 0) :: (21, .getfield 24, 3, [4, 2, 3046, 0], 0) :: (24, .iload 5, 2, [], 0) :: (26, .iload_n 1, 1, [], 0) :: (27, .iastore, 1, [], 0) :: (28, .aload_n 0, 1, [], 0) :: (29, .getfield 28, 3, [4, 3, 3047, 0], 0) :: (32, .iload 5, 2, [], 0) :: (34, .iload_n 2, 1, [], 0) :: (35, .iastore, 1, [], 0) :: (36, .aload_n 0, 1, [], 0) :: (37, .getfield 40, 3, [4, 7, 3051, 0], 0) :: (40, .iload 5, 2, [], 0) :: (42, .iload_n 3, 1, [], 0) :: (43, .iastore, 1, [], 0) :: (44, .aload_n 0, 1, [], 0) :: (45, .getfield 43, 3, [4, 8, 3052, 0], 0) :: (48, .iload 5, 2, [], 0) :: (50, .iload 4, 2, [], 0) :: (52, .iastore, 1, [], 0) :: (53, .iload_n 1, 1, [], 0) :: (54, .iconst 1, 1, [], 0) :: (55, .if_icmp .ne 16, 3, [71], 0) :: (58, .aload_n 0, 1, [], 0) :: (59, .getfield 15, 3, [4, 1, 3044, 0], 0) :: (62, .ifCond .ge 9, 3, [71], 0) :: (65, .aload_n 0, 1, [], 0) :: (66, .iload 5, 2, [], 0) :: (68, .putfield 15, 3, [4, 1, 3044, 0], 0) :: c22_71
def c22_0 : List JE := (0, .aload_n 0, 1, [], 0) :: (1, .getfield 9, 3, [4, 0, 3042, 0], 0) :: (4, .aload_n 0, 1, [], 0) :: (5, .getfield 24, 3, [4, 2, 3046, 0], 0) :: (8, .arraylength, 1, [], 0) :: (9, .if_icmp .lt 5, 3, [14], 0) :: (12, .iconst (-1), 1, [], 0) :: (13, .ireturn, 1, [], 0) :: c22_14
/-! 23 SueOrSettle$Quarrel.addWay(III)V -/
def c23_68 : List JE := (68, .return_, 1, [], 0) :: []
def c23_0 : List JE := (0, .aload_n 0, 1, [], 0) :: (1, .iload_n 1, 1, [], 0) :: (2, .invokevirtual 63, 3, [5, 1, 24, 4, 3100, 3101, 3102, 1011], 0) :: (5, .ifCond .eq 63, 3, [68], 0) :: (8, .aload_n 0, 1, [], 0) :: (9, .iload_n 3, 1, [], 0) :: (10, .invokevirtual 63, 3, [5, 1, 24, 4, 3100, 3101, 3102, 1011], 0) :: (13, .ifCond .eq 55, 3, [68], 0) :: (16, .aload_n 0, 1, [], 0) :: (17, .getfield 31, 3, [4, 4, 3048, 0], 0) :: (20, .iload_n 1, 1, [], 0) :: (21, .iaload, 1, [], 0) :: (22, .iconst 4, 1, [], 0) :: (23, .if_icmp .ge 45, 3, [68], 0) :: (26, .aload_n 0, 1, [], 0) :: (27, .getfield 34, 3, [4, 5, 3049, 0], 0) :: (30, .iconst 4, 1, [], 0) :: (31, .iload_n 1, 1, [], 0) :: (32, .imul, 1, [], 0) :: (33, .aload_n 0, 1, [], 0) :: (34, .getfield 31, 3, [4, 4, 3048, 0], 0) :: (37, .iload_n 1, 1, [], 0) :: (38, .iaload, 1, [], 0) :: (39, .iadd, 1, [], 0) :: (40, .iload_n 3, 1, [], 0) :: (41, .iastore, 1, [], 0) :: (42, .aload_n 0, 1, [], 0) :: (43, .getfield 37, 3, [4, 6, 3050, 0], 0) :: (46, .iconst 4, 1, [], 0) :: (47, .iload_n 1, 1, [], 0) :: (48, .imul, 1, [], 0) :: (49, .aload_n 0, 1, [], 0) :: (50, .getfield 31, 3, [4, 4, 3048, 0], 0) :: (53, .iload_n 1, 1, [], 0) :: (54, .iaload, 1, [], 0) :: (55, .iadd, 1, [], 0) :: (56, .iload_n 2, 1, [], 0) :: (57, .iastore, 1, [], 0) :: (58, .aload_n 0, 1, [], 0) :: (59, .getfield 31, 3, [4, 4, 3048, 0], 0) :: (62, .iload_n 1, 1, [], 0) :: (63, .dup2, 1, [], 0) :: (64, .iaload, 1, [], 0) :: (65, .iconst 1, 1, [], 0) :: (66, .iadd, 1, [], 0) :: (67, .iastore, 1, [], 0) :: c23_68
/-! 24 SueOrSettle$Quarrel.isNode(I)Z -/
def c24_17 : List JE := (17, .ireturn, 1, [1], 0) :: []
def c24_16 : List JE := (16, .iconst 0, 1, [], 0) :: c24_17
def c24_0 : List JE := (0, .iload_n 1, 1, [], 0) :: (1, .ifCond .lt 15, 3, [16], 0) :: (4, .iload_n 1, 1, [], 0) :: (5, .aload_n 0, 1, [], 0) :: (6, .getfield 9, 3, [4, 0, 3042, 0], 0) :: (9, .if_icmp .ge 7, 3, [16], 0) :: (12, .iconst 1, 1, [], 0) :: (13, .goto 4, 3, [17], 0) :: c24_16
/-! 25 SueOrSettle$Quarrel.isBranch(II)Z -/
def c25_27 : List JE := (27, .ireturn, 1, [1], 0) :: []
def c25_26 : List JE := (26, .iconst 0, 1, [], 0) :: c25_27
def c25_0 : List JE := (0, .aload_n 0, 1, [], 0) :: (1, .iload_n 1, 1, [], 0) :: (2, .invokevirtual 63, 3, [5, 1, 24, 4, 3100, 3101, 3102, 1011], 0) :: (5, .ifCond .eq 21, 3, [26], 0) :: (8, .iload_n 2, 1, [], 0) :: (9, .ifCond .lt 17, 3, [26], 0) :: (12, .iload_n 2, 1, [], 0) :: (13, .aload_n 0, 1, [], 0) :: (14, .getfield 31, 3, [4, 4, 3048, 0], 0) :: (17, .iload_n 1, 1, [], 0) :: (18, .iaload, 1, [], 0) :: (19, .if_icmp .ge 7, 3, [26], 0) :: (22, .iconst 1, 1, [], 0) :: (23, .goto 4, 3, [27], 0) :: c25_26
/-! 26 SueOrSettle$Quarrel.isWay(II)Z -/
def c26_24 : List JE := (24, .ireturn, 1, [1], 0) :: []
def c26_23 : List JE := (23, .iconst 0, 1, [], 0) :: c26_24
def c26_0 : List JE := (0, .aload_n 0, 1, [], 0) :: (1, .iload_n 1, 1, [], 0) :: (2, .iload_n 2, 1, [], 0) :: (3, .invokevirtual 67, 3, [5, 2, 25, 4, 3134, 3135, 3136, 1011], 0) :: (6, .ifCond .eq 17, 3, [23], 0) :: (9, .aload_n 0, 1, [], 0) :: (10, .getfield 24, 3, [4, 2, 3046, 0], 0) :: (13, .iload_n 1, 1, [], 0) :: (14, .iaload, 1, [], 0) :: (15, .iconst 1, 1, [], 0) :: (16, .if_icmp .ne 7, 3, [23], 0) :: (19, .iconst 1, 1, [], 0) :: (20, .goto 4, 3, [24], 0) :: c26_23
/-! 27 SueOrSettle$Quarrel.kindOf(I)I -/
def c27_0 : List JE := (0, .aload_n 0, 1, [], 0) :: (1, .getfield 24, 3, [4, 2, 3046, 0], 0) :: (4, .iload_n 1, 1, [], 0) :: (5, .iaload, 1, [], 0) :: (6, .ireturn, 1, [], 0) :: []
/-! 28 SueOrSettle$Quarrel.whatOf(I)I -/
def c28_0 : List JE := (0, .aload_n 0, 1, [], 0) :: (1, .getfield 28, 3, [4, 3, 3047, 0], 0) :: (4, .iload_n 1, 1, [], 0) :: (5, .iaload, 1, [], 0) :: (6, .ireturn, 1, [], 0) :: []
/-! 29 SueOrSettle$Quarrel.waysOf(I)I -/
def c29_0 : List JE := (0, .aload_n 0, 1, [], 0) :: (1, .getfield 31, 3, [4, 4, 3048, 0], 0) :: (4, .iload_n 1, 1, [], 0) :: (5, .iaload, 1, [], 0) :: (6, .ireturn, 1, [], 0) :: []
/-! 30 SueOrSettle$Quarrel.nodeBehind(II)I -/
def c30_0 : List JE := (0, .aload_n 0, 1, [], 0) :: (1, .getfield 34, 3, [4, 5, 3049, 0], 0) :: (4, .iconst 4, 1, [], 0) :: (5, .iload_n 1, 1, [], 0) :: (6, .imul, 1, [], 0) :: (7, .iload_n 2, 1, [], 0) :: (8, .iadd, 1, [], 0) :: (9, .iaload, 1, [], 0) :: (10, .ireturn, 1, [], 0) :: []
/-! 31 SueOrSettle$Quarrel.costOf(II)I -/
def c31_0 : List JE := (0, .aload_n 0, 1, [], 0) :: (1, .getfield 37, 3, [4, 6, 3050, 0], 0) :: (4, .iconst 4, 1, [], 0) :: (5, .iload_n 1, 1, [], 0) :: (6, .imul, 1, [], 0) :: (7, .iload_n 2, 1, [], 0) :: (8, .iadd, 1, [], 0) :: (9, .iaload, 1, [], 0) :: (10, .ireturn, 1, [], 0) :: []
/-! 32 SueOrSettle$Quarrel.isMovable(II)Z -/
def c32_36 : List JE := (36, .ireturn, 1, [1], 0) :: []
def c32_30 : List JE := (30, .aload_n 0, 1, [], 0) :: (31, .iload_n 1, 1, [], 0) :: (32, .iload_n 2, 1, [], 0) :: (33, .invokevirtual 71, 3, [5, 2, 26, 4, 3155, 3131, 3132, 1011], 0) :: c32_36
def c32_26 : List JE := (26, .iconst 0, 1, [], 0) :: (27, .goto 9, 3, [36], 0) :: c32_30
def c32_0 : List JE := (0, .iload_n 2, 1, [], 0) :: (1, .iconst (-1), 1, [], 0) :: (2, .if_icmp .ne 28, 3, [30], 0) :: (5, .aload_n 0, 1, [], 0) :: (6, .iload_n 1, 1, [], 0) :: (7, .invokevirtual 63, 3, [5, 1, 24, 4, 3100, 3101, 3102, 1011], 0) :: (10, .ifCond .eq 16, 3, [26], 0) :: (13, .aload_n 0, 1, [], 0) :: (14, .getfield 24, 3, [4, 2, 3046, 0], 0) :: (17, .iload_n 1, 1, [], 0) :: (18, .iaload, 1, [], 0) :: (19, .ifCond .ne 7, 3, [26], 0) :: (22, .iconst 1, 1, [], 0) :: (23, .goto 13, 3, [36], 0) :: c32_26
/-! 33 SueOrSettle$Quarrel.isWithin(II)Z -/
def c33_42 : List JE := (42, .ireturn, 1, [1], 0) :: []
def c33_41 : List JE := (41, .iconst 0, 1, [], 0) :: c33_42
def c33_27 : List JE := (27, .iload_n 2, 1, [], 0) :: (28, .ifCond .lt 13, 3, [41], 0) :: (31, .iload_n 2, 1, [], 0) :: (32, .bipush 99, 2, [], 0) :: (34, .if_icmp .gt 7, 3, [41], 0) :: (37, .iconst 1, 1, [], 0) :: (38, .goto 4, 3, [42], 0) :: c33_41
def c33_23 : List JE := (23, .iconst 0, 1, [], 0) :: (24, .goto 18, 3, [42], 0) :: c33_27
def c33_0 : List JE := (0, .iload_n 1, 1, [], 0) :: (1, .iconst (-1), 1, [], 0) :: (2, .if_icmp .ne 25, 3, [27], 0) :: (5, .iload_n 2, 1, [], 0) :: (6, .sipush (-999), 3, [], 0) :: (9, .if_icmp .lt 14, 3, [23], 0) :: (12, .iload_n 2, 1, [], 0) :: (13, .sipush 999, 3, [], 0) :: (16, .if_icmp .gt 7, 3, [23], 0) :: (19, .iconst 1, 1, [], 0) :: (20, .goto 22, 3, [42], 0) :: c33_23
/-! 34 SueOrSettle$Quarrel.movable(II)I -/
def c34_20 : List JE := (20, .ireturn, 1, [], 0) :: []
def c34_14 : List JE := (14, .aload_n 0, 1, [], 0) :: (15, .iload_n 1, 1, [], 0) :: (16, .iload_n 2, 1, [], 0) :: (17, .invokevirtual 74, 3, [5, 2, 31, 4, 3164, 3139, 3140, 1011], 0) :: c34_20
def c34_0 : List JE := (0, .iload_n 2, 1, [], 0) :: (1, .iconst (-1), 1, [], 0) :: (2, .if_icmp .ne 12, 3, [14], 0) :: (5, .aload_n 0, 1, [], 0) :: (6, .getfield 28, 3, [4, 3, 3047, 0], 0) :: (9, .iload_n 1, 1, [], 0) :: (10, .iaload, 1, [], 0) :: (11, .goto 9, 3, [20], 0) :: c34_14
/-! 35 SueOrSettle$Quarrel.setMovable(III)V -/
def c35_26 : List JE := (26, .return_, 1, [], 0) :: []
def c35_15 : List JE := (15, .aload_n 0, 1, [], 0) :: (16, .getfield 37, 3, [4, 6, 3050, 0], 0) :: (19, .iconst 4, 1, [], 0) :: (20, .iload_n 1, 1, [], 0) :: (21, .imul, 1, [], 0) :: (22, .iload_n 2, 1, [], 0) :: (23, .iadd, 1, [], 0) :: (24, .iload_n 3, 1, [], 0) :: (25, .iastore, 1, [], 0) :: c35_26
def c35_0 : List JE := (0, .iload_n 2, 1, [], 0) :: (1, .iconst (-1), 1, [], 0) :: (2, .if_icmp .ne 13, 3, [15], 0) :: (5, .aload_n 0, 1, [], 0) :: (6, .getfield 28, 3, [4, 3, 3047, 0], 0) :: (9, .iload_n 1, 1, [], 0) :: (10, .iload_n 3, 1, [], 0) :: (11, .iastore, 1, [], 0) :: (12, .goto 14, 3, [26], 0) :: c35_15
/-! 36 SueOrSettle$Quarrel.judgedAt(I)I -/
def c36_0 : List JE := (0, .aload_n 0, 1, [], 0) :: (1, .getfield 46, 3, [4, 9, 3053, 0], 0) :: (4, .iload_n 1, 1, [], 0) :: (5, .iaload, 1, [], 0) :: (6, .ireturn, 1, [], 0) :: []
/-! 37 SueOrSettle$Quarrel.setJudged(II)V -/
def c37_0 : List JE := (0, .aload_n 0, 1, [], 0) :: (1, .getfield 46, 3, [4, 9, 3053, 0], 0) :: (4, .iload_n 1, 1, [], 0) :: (5, .iload_n 2, 1, [], 0) :: (6, .iastore, 1, [], 0) :: (7, .return_, 1, [], 0) :: []
/-! 38 SueOrSettle$Quarrel.pickedAt(I)I -/
def c38_18 : List JE := (18, .ireturn, 1, [], 0) :: []
def c38_17 : List JE := (17, .iconst (-1), 1, [], 0) :: c38_18
def c38_0 : List JE := (0, .aload_n 0, 1, [], 0) :: (1, .iload_n 1, 1, [], 0) :: (2, .invokevirtual 63, 3, [5, 1, 24, 4, 3100, 3101, 3102, 1011], 0) :: (5, .ifCond .eq 12, 3, [17], 0) :: (8, .aload_n 0, 1, [], 0) :: (9, .getfield 49, 3, [4, 10, 3054, 0], 0) :: (12, .iload_n 1, 1, [], 0) :: (13, .iaload, 1, [], 0) :: (14, .goto 4, 3, [18], 0) :: c38_17
/-! 39 SueOrSettle$Quarrel.judgePicks()V -/
def c39_0 : List JE := (0, .aload_n 0, 1, [], 0) :: (1, .getfield 49, 3, [4, 10, 3054, 0], 0) :: (4, .iconst 0, 1, [], 0) :: (5, .aload_n 0, 1, [], 0) :: (6, .getfield 46, 3, [4, 9, 3053, 0], 0) :: (9, .iconst 0, 1, [], 0) :: (10, .aload_n 0, 1, [], 0) :: (11, .getfield 9, 3, [4, 0, 3042, 0], 0) :: (14, .invokestatic 77, 3, [7, 4097, 2101, 2100, 1009], 0) :: (17, .return_, 1, [], 0) :: []
/-! 40 SueOrSettle$Quarrel.packPicks([JI)V -/
def c40_60 : List JE := (60, .return_, 1, [], 0) :: []
def c40_21 : List JE := (21, .iload_n 3, 1, [], 0) :: (22, .aload_n 0, 1, [], 0) :: (23, .getfield 9, 3, [4, 0, 3042, 0], 0) :: (26, .if_icmp .ge 34, 3, [60], 0) :: (29, .aload_n 1, 1, [], 0) :: (30, .iload_n 2, 1, [], 0) :: (31, .iload_n 3, 1, [], 0) :: (32, .bipush 32, 2, [], 0) :: (34, .idiv, 1, [], 0) :: (35, .iadd, 1, [], 0) :: (36, .dup2, 1, [], 0) :: (37, .laload, 1, [], 0) :: (38, .aload_n 0, 1, [], 0) :: (39, .getfield 49, 3, [4, 10, 3054, 0], 0) :: (42, .iload_n 3, 1, [], 0) :: (43, .iaload, 1, [], 0) :: (44, .i2l, 1, [], 0) :: (45, .iconst 2, 1, [], 0) :: (46, .iload_n 3, 1, [], 0) :: (47, .bipush 32, 2, [], 0) :: (49, .irem, 1, [], 0) :: (50, .imul, 1, [], 0) :: (51, .lshl, 1, [], 0) :: (52, .lor, 1, [], 0) :: (53, .lastore, 1, [], 0) :: (54, .iinc 3 1, 3, [], 0) :: (57, .goto (-36), 3, [21], 0) :: c40_60
def c40_19 : List JE := (19, .iconst 0, 1, [], 0) :: (20, .istore_n 3, 1, [], 0) :: c40_21
def c40_2 : List JE := (2, .iload_n 3, 1, [], 0) :: (3, .iconst 4, 1, [], 0) :: (4, .if_icmp .ge 15, 3, [19], 0) :: (7, .aload_n 1, 1, [], 0) :: (8, .iload_n 2, 1, [], 0) :: (9, .iload_n 3, 1, [], 0) :: (10, .iadd, 1, [], 0) :: (11, .lconst 0, 1, [], 0) :: (12, .lastore, 1, [], 0) :: (13, .iinc 3 1, 3, [], 0) :: (16, .goto (-14), 3, [2], 0) :: c40_19
def c40_0 : List JE := (0, .iconst 0, 1, [], 0) :: (1, .istore_n 3, 1, [], 0) :: c40_2
/-! 41 SueOrSettle$Quarrel.judgePacked([JI)V -/
def c41_42 : List JE := (42, .return_, 1, [], 0) :: []
def c41_2 : List JE := (2, .iload_n 3, 1, [], 0) :: (3, .aload_n 0, 1, [], 0) :: (4, .getfield 9, 3, [4, 0, 3042, 0], 0) :: (7, .if_icmp .ge 35, 3, [42], 0) :: (10, .aload_n 0, 1, [], 0) :: (11, .getfield 46, 3, [4, 9, 3053, 0], 0) :: (14, .iload_n 3, 1, [], 0) :: (15, .aload_n 1, 1, [], 0) :: (16, .iload_n 2, 1, [], 0) :: (17, .iload_n 3, 1, [], 0) :: (18, .bipush 32, 2, [], 0) :: (20, .idiv, 1, [], 0) :: (21, .iadd, 1, [], 0) :: (22, .laload, 1, [], 0) :: (23, .iconst 2, 1, [], 0) :: (24, .iload_n 3, 1, [], 0) :: (25, .bipush 32, 2, [], 0) :: (27, .irem, 1, [], 0) :: (28, .imul, 1, [], 0) :: (29, .lushr, 1, [], 0) :: (30, .ldc2_w 83, 3, [5034], 3) :: (33, .land, 1, [], 0) :: (34, .l2i, 1, [], 0) :: (35, .iastore, 1, [], 0) :: (36, .iinc 3 1, 3, [], 0) :: (39, .goto (-37), 3, [2], 0) :: c41_42
def c41_0 : List JE := (0, .iconst 0, 1, [], 0) :: (1, .istore_n 3, 1, [], 0) :: c41_2
/-! 42 SueOrSettle$Quarrel.price()V -/
def c42_65 : List JE := (65, .return_, 1, [], 0) :: []
def c42_59 : List JE := (59, .iinc 1 1, 3, [], 0) :: (62, .goto (-53), 3, [9], 0) :: c42_65
def c42_19 : List JE := (19, .iload_n 2, 1, [], 0) :: (20, .aload_n 0, 1, [], 0) :: (21, .getfield 31, 3, [4, 4, 3048, 0], 0) :: (24, .iload_n 1, 1, [], 0) :: (25, .iaload, 1, [], 0) :: (26, .if_icmp .ge 33, 3, [59], 0) :: (29, .aload_n 0, 1, [], 0) :: (30, .getfield 52, 3, [4, 11, 3055, 0], 0) :: (33, .aload_n 0, 1, [], 0) :: (34, .iload_n 1, 1, [], 0) :: (35, .iload_n 2, 1, [], 0) :: (36, .invokevirtual 85, 3, [5, 2, 30, 4, 4063, 3144, 3145, 1011], 0) :: (39, .aload_n 0, 1, [], 0) :: (40, .getfield 52, 3, [4, 11, 3055, 0], 0) :: (43, .iload_n 1, 1, [], 0) :: (44, .iaload, 1, [], 0) :: (45, .aload_n 0, 1, [], 0) :: (46, .iload_n 1, 1, [], 0) :: (47, .iload_n 2, 1, [], 0) :: (48, .invokevirtual 74, 3, [5, 2, 31, 4, 3164, 3139, 3140, 1011], 0) :: (51, .iadd, 1, [], 0) :: (52, .iastore, 1, [], 0) :: (53, .iinc 2 1, 3, [], 0) :: (56, .goto (-37), 3, [19], 0) :: c42_59
def c42_9 : List JE := (9, .iload_n 1, 1, [], 0) :: (10, .aload_n 0, 1, [], 0) :: (11, .getfield 9, 3, [4, 0, 3042, 0], 0) :: (14, .if_icmp .ge 51, 3, [65], 0) :: (17, .iconst 0, 1, [], 0) :: (18, .istore_n 2, 1, [], 0) :: c42_19
def c42_0 : List JE := (0, .aload_n 0, 1, [], 0) :: (1, .getfield 52, 3, [4, 11, 3055, 0], 0) :: (4, .iconst 0, 1, [], 0) :: (5, .iconst 0, 1, [], 0) :: (6, .iastore, 1, [], 0) :: (7, .iconst 0, 1, [], 0) :: (8, .istore_n 1, 1, [], 0) :: c42_9
/-! 43 SueOrSettle$Quarrel.weighEnds(LSueOrSettle$Things;LSueOrSettle$End;I)V -/
def c43_91 : List JE := (91, .return_, 1, [], 0) :: []
def c43_85 : List JE := (85, .iinc 5 1, 3, [], 0) :: (88, .goto (-75), 3, [13], 0) :: c43_91
def c43_53 : List JE := (53, .lstore 6, 2, [], 0) :: (55, .aload_n 0, 1, [], 0) :: (56, .getfield 55, 3, [4, 12, 3056, 0], 0) :: (59, .iload 5, 2, [], 0) :: (61, .lload 6, 2, [], 0) :: (63, .aload_n 2, 1, [], 0) :: (64, .aload_n 0, 1, [], 0) :: (65, .getfield 28, 3, [4, 3, 3047, 0], 0) :: (68, .iload 5, 2, [], 0) :: (70, .iaload, 1, [], 0) :: (71, .aload_n 0, 1, [], 0) :: (72, .getfield 52, 3, [4, 11, 3055, 0], 0) :: (75, .iload 5, 2, [], 0) :: (77, .iaload, 1, [], 0) :: (78, .isub, 1, [], 0) :: (79, .invokevirtual 103, 3, [9, 1], 0) :: (82, .i2l, 1, [], 0) :: (83, .lmul, 1, [], 0) :: (84, .lastore, 1, [], 0) :: c43_85
def c43_41 : List JE := (41, .aload_n 1, 1, [], 0) :: (42, .aload_n 0, 1, [], 0) :: (43, .getfield 43, 3, [4, 8, 3052, 0], 0) :: (46, .iload 5, 2, [], 0) :: (48, .iaload, 1, [], 0) :: (49, .iload_n 3, 1, [], 0) :: (50, .invokevirtual 97, 3, [5, 2, 163, 10, 4076, 2172, 2173, 1002], 0) :: c43_53
def c43_13 : List JE := (13, .iload 5, 2, [], 0) :: (15, .aload_n 0, 1, [], 0) :: (16, .getfield 9, 3, [4, 0, 3042, 0], 0) :: (19, .if_icmp .ge 72, 3, [91], 0) :: (22, .aload_n 0, 1, [], 0) :: (23, .getfield 24, 3, [4, 2, 3046, 0], 0) :: (26, .iload 5, 2, [], 0) :: (28, .iaload, 1, [], 0) :: (29, .ifCond .ne 56, 3, [85], 0) :: (32, .iload 4, 2, [], 0) :: (34, .ifCond .eq 7, 3, [41], 0) :: (37, .lconst 1, 1, [], 0) :: (38, .goto 15, 3, [53], 0) :: c43_41
def c43_0 : List JE := (0, .aload_n 0, 1, [], 0) :: (1, .invokevirtual 88, 3, [5, 0, 42, 4, 4059, 4060, 4061, 1011], 0) :: (4, .aload_n 2, 1, [], 0) :: (5, .invokevirtual 91, 3, [9, 0], 0) :: (8, .istore 4, 2, [], 0) :: (10, .iconst 0, 1, [], 0) :: (11, .istore 5, 2, [], 0) :: c43_13
/-! 44 SueOrSettle$Quarrel.rise(ZZ)J -/
def c44_100 : List JE := (100, .aload_n 0, 1, [], 0) :: (101, .getfield 55, 3, [4, 12, 3056, 0], 0) :: (104, .iconst 0, 1, [], 0) :: (105, .laload, 1, [], 0) :: (106, .lreturn, 1, [], 0) :: []
def c44_94 : List JE := (94, .iinc 3 (-1), 3, [], 0) :: (97, .goto (-90), 3, [7], 0) :: c44_100
def c44_72 : List JE := (72, .aload_n 0, 1, [], 0) :: (73, .getfield 24, 3, [4, 2, 3046, 0], 0) :: (76, .iload_n 3, 1, [], 0) :: (77, .iaload, 1, [], 0) :: (78, .iconst 2, 1, [], 0) :: (79, .if_icmp .ne 15, 3, [94], 0) :: (82, .aload_n 0, 1, [], 0) :: (83, .getfield 55, 3, [4, 12, 3056, 0], 0) :: (86, .iload_n 3, 1, [], 0) :: (87, .aload_n 0, 1, [], 0) :: (88, .iload_n 3, 1, [], 0) :: (89, .iload_n 1, 1, [], 0) :: (90, .invokevirtual 111, 3, [5, 2, 46, 4, 4086, 4088, 29, 1011], 0) :: (93, .lastore, 1, [], 0) :: c44_94
def c44_46 : List JE := (46, .iastore, 1, [], 0) :: (47, .aload_n 0, 1, [], 0) :: (48, .getfield 55, 3, [4, 12, 3056, 0], 0) :: (51, .iload_n 3, 1, [], 0) :: (52, .aload_n 0, 1, [], 0) :: (53, .getfield 55, 3, [4, 12, 3056, 0], 0) :: (56, .aload_n 0, 1, [], 0) :: (57, .iload_n 3, 1, [], 0) :: (58, .aload_n 0, 1, [], 0) :: (59, .getfield 49, 3, [4, 10, 3054, 0], 0) :: (62, .iload_n 3, 1, [], 0) :: (63, .iaload, 1, [], 0) :: (64, .invokevirtual 85, 3, [5, 2, 30, 4, 4063, 3144, 3145, 1011], 0) :: (67, .laload, 1, [], 0) :: (68, .lastore, 1, [], 0) :: (69, .goto 25, 3, [94], 0) :: c44_72
def c44_40 : List JE := (40, .aload_n 0, 1, [], 0) :: (41, .getfield 46, 3, [4, 9, 3053, 0], 0) :: (44, .iload_n 3, 1, [], 0) :: (45, .iaload, 1, [], 0) :: c44_46
def c44_7 : List JE := (7, .iload_n 3, 1, [], 0) :: (8, .ifCond .lt 92, 3, [100], 0) :: (11, .aload_n 0, 1, [], 0) :: (12, .getfield 24, 3, [4, 2, 3046, 0], 0) :: (15, .iload_n 3, 1, [], 0) :: (16, .iaload, 1, [], 0) :: (17, .iconst 1, 1, [], 0) :: (18, .if_icmp .ne 54, 3, [72], 0) :: (21, .aload_n 0, 1, [], 0) :: (22, .getfield 49, 3, [4, 10, 3054, 0], 0) :: (25, .iload_n 3, 1, [], 0) :: (26, .iload_n 2, 1, [], 0) :: (27, .ifCond .eq 13, 3, [40], 0) :: (30, .aload_n 0, 1, [], 0) :: (31, .iload_n 3, 1, [], 0) :: (32, .iconst (-1), 1, [], 0) :: (33, .lconst 0, 1, [], 0) :: (34, .invokevirtual 107, 3, [5, 3, 45, 4, 4082, 4084, 28, 1011], 0) :: (37, .goto 9, 3, [46], 0) :: c44_40
def c44_0 : List JE := (0, .aload_n 0, 1, [], 0) :: (1, .getfield 9, 3, [4, 0, 3042, 0], 0) :: (4, .iconst 1, 1, [], 0) :: (5, .isub, 1, [], 0) :: (6, .istore_n 3, 1, [], 0) :: c44_7
/-! 45 SueOrSettle$Quarrel.bestWay(IIJ)I -/
def c45_75 : List JE := (75, .iload 5, 2, [], 0) :: (77, .ireturn, 1, [], 0) :: []
def c45_69 : List JE := (69, .iinc 8 1, 3, [], 0) :: (72, .goto (-63), 3, [9], 0) :: c45_75
def c45_61 : List JE := (61, .lload 10, 2, [], 0) :: (63, .lstore 6, 2, [], 0) :: (65, .iload 8, 2, [], 0) :: (67, .istore 5, 2, [], 0) :: c45_69
def c45_46 : List JE := (46, .lstore 10, 2, [], 0) :: (48, .iload 8, 2, [], 0) :: (50, .ifCond .eq 11, 3, [61], 0) :: (53, .lload 10, 2, [], 0) :: (55, .lload 6, 2, [], 0) :: (57, .lcmp, 1, [], 0) :: (58, .ifCond .le 11, 3, [69], 0) :: c45_61
def c45_39 : List JE := (39, .aload_n 0, 1, [], 0) :: (40, .getfield 55, 3, [4, 12, 3056, 0], 0) :: (43, .iload 9, 2, [], 0) :: (45, .laload, 1, [], 0) :: c45_46
def c45_9 : List JE := (9, .iload 8, 2, [], 0) :: (11, .aload_n 0, 1, [], 0) :: (12, .getfield 31, 3, [4, 4, 3048, 0], 0) :: (15, .iload_n 1, 1, [], 0) :: (16, .iaload, 1, [], 0) :: (17, .if_icmp .ge 58, 3, [75], 0) :: (20, .aload_n 0, 1, [], 0) :: (21, .iload_n 1, 1, [], 0) :: (22, .iload 8, 2, [], 0) :: (24, .invokevirtual 85, 3, [5, 2, 30, 4, 4063, 3144, 3145, 1011], 0) :: (27, .istore 9, 2, [], 0) :: (29, .iload 9, 2, [], 0) :: (31, .iload_n 2, 1, [], 0) :: (32, .if_icmp .ne 7, 3, [39], 0) :: (35, .lload_n 3, 1, [], 0) :: (36, .goto 10, 3, [46], 0) :: c45_39
def c45_0 : List JE := (0, .iconst 0, 1, [], 0) :: (1, .istore 5, 2, [], 0) :: (3, .lconst 0, 1, [], 0) :: (4, .lstore 6, 2, [], 0) :: (6, .iconst 0, 1, [], 0) :: (7, .istore 8, 2, [], 0) :: c45_9
/-! 46 SueOrSettle$Quarrel.turnedWorth(IZ)J -/
def c46_64 : List JE := (64, .lload_n 3, 1, [], 0) :: (65, .lreturn, 1, [], 0) :: []
def c46_57 : List JE := (57, .lstore_n 3, 1, [], 0) :: (58, .iinc 5 1, 3, [], 0) :: (61, .goto (-46), 3, [15], 0) :: c46_64
def c46_53 : List JE := (53, .lload_n 3, 1, [], 0) :: (54, .lload 6, 2, [], 0) :: (56, .ladd, 1, [], 0) :: c46_57
def c46_15 : List JE := (15, .iload 5, 2, [], 0) :: (17, .aload_n 0, 1, [], 0) :: (18, .getfield 31, 3, [4, 4, 3048, 0], 0) :: (21, .iload_n 1, 1, [], 0) :: (22, .iaload, 1, [], 0) :: (23, .if_icmp .ge 41, 3, [64], 0) :: (26, .aload_n 0, 1, [], 0) :: (27, .getfield 55, 3, [4, 12, 3056, 0], 0) :: (30, .aload_n 0, 1, [], 0) :: (31, .iload_n 1, 1, [], 0) :: (32, .iload 5, 2, [], 0) :: (34, .invokevirtual 85, 3, [5, 2, 30, 4, 4063, 3144, 3145, 1011], 0) :: (37, .laload, 1, [], 0) :: (38, .lstore 6, 2, [], 0) :: (40, .iload_n 2, 1, [], 0) :: (41, .ifCond .eq 12, 3, [53], 0) :: (44, .lload_n 3, 1, [], 0) :: (45, .lload 6, 2, [], 0) :: (47, .invokestatic 115, 3, [0, 2, 382, 4090, 4091, 1010], 0) :: (50, .goto 7, 3, [57], 0) :: c46_53
def c46_0 : List JE := (0, .aload_n 0, 1, [], 0) :: (1, .getfield 55, 3, [4, 12, 3056, 0], 0) :: (4, .aload_n 0, 1, [], 0) :: (5, .iload_n 1, 1, [], 0) :: (6, .iconst 0, 1, [], 0) :: (7, .invokevirtual 85, 3, [5, 2, 30, 4, 4063, 3144, 3145, 1011], 0) :: (10, .laload, 1, [], 0) :: (11, .lstore_n 3, 1, [], 0) :: (12, .iconst 1, 1, [], 0) :: (13, .istore 5, 2, [], 0) :: c46_15
/-! 47 SueOrSettle$Quarrel.bestWorth(LSueOrSettle$Things;LSueOrSettle$End;I)J -/
def c47_0 : List JE := (0, .aload_n 0, 1, [], 0) :: (1, .aload_n 1, 1, [], 0) :: (2, .aload_n 2, 1, [], 0) :: (3, .iload_n 3, 1, [], 0) :: (4, .invokevirtual 119, 3, [5, 3, 43, 4, 4055, 4057, 26, 1011], 0) :: (7, .aload_n 0, 1, [], 0) :: (8, .aload_n 2, 1, [], 0) :: (9, .invokevirtual 91, 3, [9, 0], 0) :: (12, .iconst 1, 1, [], 0) :: (13, .invokevirtual 123, 3, [5, 2, 44, 4, 4078, 4080, 27, 1011], 0) :: (16, .lreturn, 1, [], 0) :: []
/-! 48 SueOrSettle$Quarrel.judgedWorth(LSueOrSettle$Things;LSueOrSettle$End;)J -/
def c48_0 : List JE := (0, .aload_n 0, 1, [], 0) :: (1, .aload_n 1, 1, [], 0) :: (2, .aload_n 2, 1, [], 0) :: (3, .iconst 0, 1, [], 0) :: (4, .invokevirtual 119, 3, [5, 3, 43, 4, 4055, 4057, 26, 1011], 0) :: (7, .aload_n 0, 1, [], 0) :: (8, .aload_n 2, 1, [], 0) :: (9, .invokevirtual 127, 3, [5, 1, 49, 4, 4147, 4148, 4149, 1011], 0) :: (12, .lreturn, 1, [], 0) :: []
/-! 49 SueOrSettle$Quarrel.judgedRise(LSueOrSettle$End;)J -/
def c49_0 : List JE := (0, .aload_n 0, 1, [], 0) :: (1, .aload_n 1, 1, [], 0) :: (2, .invokevirtual 91, 3, [9, 0], 0) :: (5, .iconst 0, 1, [], 0) :: (6, .invokevirtual 123, 3, [5, 2, 44, 4, 4078, 4080, 27, 1011], 0) :: (9, .lreturn, 1, [], 0) :: []
/-! 50 SueOrSettle$Quarrel.askedWorth(LSueOrSettle$Things;LSueOrSettle$End;II)J -/
def c50_89 : List JE := (89, .lload 5, 2, [], 0) :: (91, .lreturn, 1, [], 0) :: []
def c50_83 : List JE := (83, .iinc 7 1, 3, [], 0) :: (86, .goto (-80), 3, [6], 0) :: c50_89
def c50_41 : List JE := (41, .iload 8, 2, [], 0) :: (43, .aload_n 1, 1, [], 0) :: (44, .iload 4, 2, [], 0) :: (46, .invokevirtual 131, 3, [5, 1, 141, 10, 4197, 3015, 3016, 1002], 0) :: (49, .if_icmp .gt 34, 3, [83], 0) :: (52, .lload 5, 2, [], 0) :: (54, .aload_n 0, 1, [], 0) :: (55, .aload_n 1, 1, [], 0) :: (56, .aload_n 2, 1, [], 0) :: (57, .iload 7, 2, [], 0) :: (59, .iconst 2, 1, [], 0) :: (60, .iload_n 3, 1, [], 0) :: (61, .imul, 1, [], 0) :: (62, .ishl, 1, [], 0) :: (63, .iload 8, 2, [], 0) :: (65, .iconst 2, 1, [], 0) :: (66, .iload 4, 2, [], 0) :: (68, .imul, 1, [], 0) :: (69, .ishl, 1, [], 0) :: (70, .ior, 1, [], 0) :: (71, .invokevirtual 134, 3, [5, 3, 47, 4, 4198, 4052, 4053, 1011], 0) :: (74, .ladd, 1, [], 0) :: (75, .lstore 5, 2, [], 0) :: (77, .iinc 8 1, 3, [], 0) :: (80, .goto (-39), 3, [41], 0) :: c50_83
def c50_38 : List JE := (38, .iconst 1, 1, [], 0) :: (39, .istore 8, 2, [], 0) :: c50_41
def c50_6 : List JE := (6, .iload 7, 2, [], 0) :: (8, .aload_n 1, 1, [], 0) :: (9, .iload_n 3, 1, [], 0) :: (10, .invokevirtual 131, 3, [5, 1, 141, 10, 4197, 3015, 3016, 1002], 0) :: (13, .if_icmp .gt 76, 3, [89], 0) :: (16, .iload 4, 2, [], 0) :: (18, .ifCond .ge 20, 3, [38], 0) :: (21, .lload 5, 2, [], 0) :: (23, .aload_n 0, 1, [], 0) :: (24, .aload_n 1, 1, [], 0) :: (25, .aload_n 2, 1, [], 0) :: (26, .iload 7, 2, [], 0) :: (28, .iconst 2, 1, [], 0) :: (29, .iload_n 3, 1, [], 0) :: (30, .imul, 1, [], 0) :: (31, .ishl, 1, [], 0) :: (32, .invokevirtual 134, 3, [5, 3, 47, 4, 4198, 4052, 4053, 1011], 0) :: (35, .ladd, 1, [], 0) :: (36, .lstore 5, 2, [], 0) :: c50_38
def c50_0 : List JE := (0, .lconst 0, 1, [], 0) :: (1, .lstore 5, 2, [], 0) :: (3, .iconst 1, 1, [], 0) :: (4, .istore 7, 2, [], 0) :: c50_6
/-! 51 SueOrSettle$Quarrel.couldHave(LSueOrSettle$Things;LSueOrSettle$End;)J -/
def c51_63 : List JE := (63, .lload_n 3, 1, [], 0) :: (64, .lreturn, 1, [], 0) :: []
def c51_57 : List JE := (57, .iinc 6 1, 3, [], 0) :: (60, .goto (-45), 3, [15], 0) :: c51_63
def c51_15 : List JE := (15, .iload 6, 2, [], 0) :: (17, .aload_n 1, 1, [], 0) :: (18, .invokevirtual 138, 3, [5, 0, 157, 10, 4120, 2139, 2140, 1002], 0) :: (21, .if_icmp .ge 42, 3, [63], 0) :: (24, .aload_n 1, 1, [], 0) :: (25, .iload 6, 2, [], 0) :: (27, .invokevirtual 142, 3, [5, 1, 159, 10, 4121, 2148, 2149, 1002], 0) :: (30, .ifCond .eq 27, 3, [57], 0) :: (33, .lload_n 3, 1, [], 0) :: (34, .aload_n 1, 1, [], 0) :: (35, .iload 6, 2, [], 0) :: (37, .iload 5, 2, [], 0) :: (39, .iadd, 1, [], 0) :: (40, .invokevirtual 145, 3, [5, 1, 161, 10, 4122, 2157, 2158, 1002], 0) :: (43, .aload_n 2, 1, [], 0) :: (44, .aload_n 0, 1, [], 0) :: (45, .iload 6, 2, [], 0) :: (47, .invokevirtual 149, 3, [5, 1, 52, 4, 4123, 4125, 31, 1011], 0) :: (50, .invokevirtual 103, 3, [9, 1], 0) :: (53, .i2l, 1, [], 0) :: (54, .lmul, 1, [], 0) :: (55, .ladd, 1, [], 0) :: (56, .lstore_n 3, 1, [], 0) :: c51_57
def c51_0 : List JE := (0, .lconst 0, 1, [], 0) :: (1, .lstore_n 3, 1, [], 0) :: (2, .aload_n 1, 1, [], 0) :: (3, .invokevirtual 138, 3, [5, 0, 157, 10, 4120, 2139, 2140, 1002], 0) :: (6, .iconst 1, 1, [], 0) :: (7, .isub, 1, [], 0) :: (8, .iconst 3, 1, [], 0) :: (9, .idiv, 1, [], 0) :: (10, .istore 5, 2, [], 0) :: (12, .iconst 0, 1, [], 0) :: (13, .istore 6, 2, [], 0) :: c51_15
/-! 52 SueOrSettle$Quarrel.greatestValue(I)I -/
def c52_113 : List JE := (113, .aload_n 0, 1, [], 0) :: (114, .getfield 55, 3, [4, 12, 3056, 0], 0) :: (117, .iconst 0, 1, [], 0) :: (118, .laload, 1, [], 0) :: (119, .l2i, 1, [], 0) :: (120, .ireturn, 1, [], 0) :: []
def c52_107 : List JE := (107, .iinc 2 (-1), 3, [], 0) :: (110, .goto (-103), 3, [7], 0) :: c52_113
def c52_79 : List JE := (79, .aload_n 0, 1, [], 0) :: (80, .getfield 55, 3, [4, 12, 3056, 0], 0) :: (83, .iload_n 2, 1, [], 0) :: (84, .aload_n 0, 1, [], 0) :: (85, .getfield 55, 3, [4, 12, 3056, 0], 0) :: (88, .aload_n 0, 1, [], 0) :: (89, .iload_n 2, 1, [], 0) :: (90, .iload_n 1, 1, [], 0) :: (91, .iconst 2, 1, [], 0) :: (92, .aload_n 0, 1, [], 0) :: (93, .getfield 28, 3, [4, 3, 3047, 0], 0) :: (96, .iload_n 2, 1, [], 0) :: (97, .iaload, 1, [], 0) :: (98, .imul, 1, [], 0) :: (99, .ishr, 1, [], 0) :: (100, .iconst 3, 1, [], 0) :: (101, .iand, 1, [], 0) :: (102, .invokevirtual 85, 3, [5, 2, 30, 4, 4063, 3144, 3145, 1011], 0) :: (105, .laload, 1, [], 0) :: (106, .lastore, 1, [], 0) :: c52_107
def c52_43 : List JE := (43, .aload_n 0, 1, [], 0) :: (44, .getfield 24, 3, [4, 2, 3046, 0], 0) :: (47, .iload_n 2, 1, [], 0) :: (48, .iaload, 1, [], 0) :: (49, .iconst 1, 1, [], 0) :: (50, .if_icmp .ne 29, 3, [79], 0) :: (53, .aload_n 0, 1, [], 0) :: (54, .getfield 55, 3, [4, 12, 3056, 0], 0) :: (57, .iload_n 2, 1, [], 0) :: (58, .aload_n 0, 1, [], 0) :: (59, .getfield 55, 3, [4, 12, 3056, 0], 0) :: (62, .aload_n 0, 1, [], 0) :: (63, .iload_n 2, 1, [], 0) :: (64, .aload_n 0, 1, [], 0) :: (65, .iload_n 2, 1, [], 0) :: (66, .iconst (-1), 1, [], 0) :: (67, .lconst 0, 1, [], 0) :: (68, .invokevirtual 107, 3, [5, 3, 45, 4, 4082, 4084, 28, 1011], 0) :: (71, .invokevirtual 85, 3, [5, 2, 30, 4, 4063, 3144, 3145, 1011], 0) :: (74, .laload, 1, [], 0) :: (75, .lastore, 1, [], 0) :: (76, .goto 31, 3, [107], 0) :: c52_79
def c52_7 : List JE := (7, .iload_n 2, 1, [], 0) :: (8, .ifCond .lt 105, 3, [113], 0) :: (11, .aload_n 0, 1, [], 0) :: (12, .getfield 24, 3, [4, 2, 3046, 0], 0) :: (15, .iload_n 2, 1, [], 0) :: (16, .iaload, 1, [], 0) :: (17, .ifCond .ne 26, 3, [43], 0) :: (20, .aload_n 0, 1, [], 0) :: (21, .getfield 55, 3, [4, 12, 3056, 0], 0) :: (24, .iload_n 2, 1, [], 0) :: (25, .aload_n 0, 1, [], 0) :: (26, .getfield 28, 3, [4, 3, 3047, 0], 0) :: (29, .iload_n 2, 1, [], 0) :: (30, .iaload, 1, [], 0) :: (31, .aload_n 0, 1, [], 0) :: (32, .getfield 52, 3, [4, 11, 3055, 0], 0) :: (35, .iload_n 2, 1, [], 0) :: (36, .iaload, 1, [], 0) :: (37, .isub, 1, [], 0) :: (38, .i2l, 1, [], 0) :: (39, .lastore, 1, [], 0) :: (40, .goto 67, 3, [107], 0) :: c52_43
def c52_0 : List JE := (0, .aload_n 0, 1, [], 0) :: (1, .getfield 9, 3, [4, 0, 3042, 0], 0) :: (4, .iconst 1, 1, [], 0) :: (5, .isub, 1, [], 0) :: (6, .istore_n 2, 1, [], 0) :: c52_7
/-! 53 SueOrSettle$Quarrel.valueOfPlan(I)I -/
def c53_64 : List JE := (64, .aload_n 0, 1, [], 0) :: (65, .getfield 28, 3, [4, 3, 3047, 0], 0) :: (68, .iload_n 2, 1, [], 0) :: (69, .iaload, 1, [], 0) :: (70, .aload_n 0, 1, [], 0) :: (71, .getfield 52, 3, [4, 11, 3055, 0], 0) :: (74, .iload_n 2, 1, [], 0) :: (75, .iaload, 1, [], 0) :: (76, .isub, 1, [], 0) :: (77, .ireturn, 1, [], 0) :: []
def c53_54 : List JE := (54, .invokevirtual 85, 3, [5, 2, 30, 4, 4063, 3144, 3145, 1011], 0) :: (57, .istore_n 2, 1, [], 0) :: (58, .iinc 3 1, 3, [], 0) :: (61, .goto (-57), 3, [4], 0) :: c53_64
def c53_42 : List JE := (42, .iload_n 1, 1, [], 0) :: (43, .iconst 2, 1, [], 0) :: (44, .aload_n 0, 1, [], 0) :: (45, .getfield 28, 3, [4, 3, 3047, 0], 0) :: (48, .iload_n 2, 1, [], 0) :: (49, .iaload, 1, [], 0) :: (50, .imul, 1, [], 0) :: (51, .ishr, 1, [], 0) :: (52, .iconst 3, 1, [], 0) :: (53, .iand, 1, [], 0) :: c53_54
def c53_4 : List JE := (4, .iload_n 3, 1, [], 0) :: (5, .aload_n 0, 1, [], 0) :: (6, .getfield 9, 3, [4, 0, 3042, 0], 0) :: (9, .if_icmp .ge 55, 3, [64], 0) :: (12, .aload_n 0, 1, [], 0) :: (13, .getfield 24, 3, [4, 2, 3046, 0], 0) :: (16, .iload_n 2, 1, [], 0) :: (17, .iaload, 1, [], 0) :: (18, .ifCond .eq 46, 3, [64], 0) :: (21, .aload_n 0, 1, [], 0) :: (22, .iload_n 2, 1, [], 0) :: (23, .aload_n 0, 1, [], 0) :: (24, .getfield 24, 3, [4, 2, 3046, 0], 0) :: (27, .iload_n 2, 1, [], 0) :: (28, .iaload, 1, [], 0) :: (29, .iconst 1, 1, [], 0) :: (30, .if_icmp .ne 12, 3, [42], 0) :: (33, .aload_n 0, 1, [], 0) :: (34, .getfield 46, 3, [4, 9, 3053, 0], 0) :: (37, .iload_n 2, 1, [], 0) :: (38, .iaload, 1, [], 0) :: (39, .goto 15, 3, [54], 0) :: c53_42
def c53_0 : List JE := (0, .iconst 0, 1, [], 0) :: (1, .istore_n 2, 1, [], 0) :: (2, .iconst 0, 1, [], 0) :: (3, .istore_n 3, 1, [], 0) :: c53_4
/-! 54 SueOrSettle$Quarrel.reachByPlan()V -/
def c54_96 : List JE := (96, .return_, 1, [], 0) :: []
def c54_90 : List JE := (90, .iinc 1 1, 3, [], 0) :: (93, .goto (-84), 3, [9], 0) :: c54_96
def c54_83 : List JE := (83, .bastore, 1, [23], 0) :: (84, .iinc 2 1, 3, [], 0) :: (87, .goto (-68), 3, [19], 0) :: c54_90
def c54_82 : List JE := (82, .iconst 0, 1, [], 0) :: c54_83
def c54_54 : List JE := (54, .istore_n 3, 1, [], 0) :: (55, .aload_n 0, 1, [], 0) :: (56, .getfield 59, 3, [4, 13, 3057, 0], 0) :: (59, .aload_n 0, 1, [], 0) :: (60, .iload_n 1, 1, [], 0) :: (61, .iload_n 2, 1, [], 0) :: (62, .invokevirtual 85, 3, [5, 2, 30, 4, 4063, 3144, 3145, 1011], 0) :: (65, .aload_n 0, 1, [], 0) :: (66, .getfield 59, 3, [4, 13, 3057, 0], 0) :: (69, .iload_n 1, 1, [], 0) :: (70, .baload, 1, [23], 0) :: (71, .ifCond .eq 11, 3, [82], 0) :: (74, .iload_n 3, 1, [], 0) :: (75, .ifCond .eq 7, 3, [82], 0) :: (78, .iconst 1, 1, [], 0) :: (79, .goto 4, 3, [83], 0) :: c54_82
def c54_53 : List JE := (53, .iconst 0, 1, [], 0) :: c54_54
def c54_49 : List JE := (49, .iconst 1, 1, [], 0) :: (50, .goto 4, 3, [54], 0) :: c54_53
def c54_19 : List JE := (19, .iload_n 2, 1, [], 0) :: (20, .aload_n 0, 1, [], 0) :: (21, .getfield 31, 3, [4, 4, 3048, 0], 0) :: (24, .iload_n 1, 1, [], 0) :: (25, .iaload, 1, [], 0) :: (26, .if_icmp .ge 64, 3, [90], 0) :: (29, .aload_n 0, 1, [], 0) :: (30, .getfield 24, 3, [4, 2, 3046, 0], 0) :: (33, .iload_n 1, 1, [], 0) :: (34, .iaload, 1, [], 0) :: (35, .iconst 2, 1, [], 0) :: (36, .if_icmp .eq 13, 3, [49], 0) :: (39, .aload_n 0, 1, [], 0) :: (40, .getfield 46, 3, [4, 9, 3053, 0], 0) :: (43, .iload_n 1, 1, [], 0) :: (44, .iaload, 1, [], 0) :: (45, .iload_n 2, 1, [], 0) :: (46, .if_icmp .ne 7, 3, [53], 0) :: c54_49
def c54_9 : List JE := (9, .iload_n 1, 1, [], 0) :: (10, .aload_n 0, 1, [], 0) :: (11, .getfield 9, 3, [4, 0, 3042, 0], 0) :: (14, .if_icmp .ge 82, 3, [96], 0) :: (17, .iconst 0, 1, [], 0) :: (18, .istore_n 2, 1, [], 0) :: c54_19
def c54_0 : List JE := (0, .aload_n 0, 1, [], 0) :: (1, .getfield 59, 3, [4, 13, 3057, 0], 0) :: (4, .iconst 0, 1, [], 0) :: (5, .iconst 1, 1, [], 0) :: (6, .bastore, 1, [23], 0) :: (7, .iconst 0, 1, [], 0) :: (8, .istore_n 1, 1, [], 0) :: c54_9
/-! 55 SueOrSettle$Quarrel.toldOfPlan(I)I -/
def c55_71 : List JE := (71, .ireturn, 1, [], 0) :: []
def c55_70 : List JE := (70, .iconst (-1), 1, [], 0) :: c55_71
def c55_61 : List JE := (61, .iload_n 1, 1, [], 0) :: (62, .iconst (-1), 1, [], 0) :: (63, .if_icmp .ne 7, 3, [70], 0) :: (66, .iload_n 2, 1, [], 0) :: (67, .goto 4, 3, [71], 0) :: c55_70
def c55_55 : List JE := (55, .iinc 3 1, 3, [], 0) :: (58, .goto (-50), 3, [8], 0) :: c55_61
def c55_52 : List JE := (52, .iinc 2 1, 3, [], 0) :: c55_55
def c55_8 : List JE := (8, .iload_n 3, 1, [], 0) :: (9, .aload_n 0, 1, [], 0) :: (10, .getfield 9, 3, [4, 0, 3042, 0], 0) :: (13, .if_icmp .ge 48, 3, [61], 0) :: (16, .aload_n 0, 1, [], 0) :: (17, .getfield 59, 3, [4, 13, 3057, 0], 0) :: (20, .iload_n 3, 1, [], 0) :: (21, .baload, 1, [23], 0) :: (22, .ifCond .eq 33, 3, [55], 0) :: (25, .aload_n 0, 1, [], 0) :: (26, .getfield 24, 3, [4, 2, 3046, 0], 0) :: (29, .iload_n 3, 1, [], 0) :: (30, .iaload, 1, [], 0) :: (31, .iconst 1, 1, [], 0) :: (32, .if_icmp .ne 23, 3, [55], 0) :: (35, .iload_n 2, 1, [], 0) :: (36, .iload_n 1, 1, [], 0) :: (37, .if_icmp .ne 15, 3, [52], 0) :: (40, .bipush 10, 2, [], 0) :: (42, .iload_n 3, 1, [], 0) :: (43, .imul, 1, [], 0) :: (44, .aload_n 0, 1, [], 0) :: (45, .getfield 46, 3, [4, 9, 3053, 0], 0) :: (48, .iload_n 3, 1, [], 0) :: (49, .iaload, 1, [], 0) :: (50, .iadd, 1, [], 0) :: (51, .ireturn, 1, [], 0) :: c55_52
def c55_0 : List JE := (0, .aload_n 0, 1, [], 0) :: (1, .invokevirtual 152, 3, [5, 0, 54, 4, 4160, 4162, 32, 1011], 0) :: (4, .iconst 0, 1, [], 0) :: (5, .istore_n 2, 1, [], 0) :: (6, .iconst 0, 1, [], 0) :: (7, .istore_n 3, 1, [], 0) :: c55_8
/-! 56 SueOrSettle$Quarrel.shortChoice(LSueOrSettle$Things;LSueOrSettle$End;)I -/
def c56_64 : List JE := (64, .bipush (-2), 2, [], 0) :: (66, .ireturn, 1, [], 0) :: []
def c56_58 : List JE := (58, .iinc 5 1, 3, [], 0) :: (61, .goto (-47), 3, [14], 0) :: c56_64
def c56_14 : List JE := (14, .iload 5, 2, [], 0) :: (16, .aload_n 0, 1, [], 0) :: (17, .getfield 9, 3, [4, 0, 3042, 0], 0) :: (20, .if_icmp .ge 44, 3, [64], 0) :: (23, .aload_n 0, 1, [], 0) :: (24, .getfield 59, 3, [4, 13, 3057, 0], 0) :: (27, .iload 5, 2, [], 0) :: (29, .baload, 1, [23], 0) :: (30, .ifCond .eq 28, 3, [58], 0) :: (33, .aload_n 0, 1, [], 0) :: (34, .getfield 24, 3, [4, 2, 3046, 0], 0) :: (37, .iload 5, 2, [], 0) :: (39, .iaload, 1, [], 0) :: (40, .iconst 1, 1, [], 0) :: (41, .if_icmp .ne 17, 3, [58], 0) :: (44, .aload_n 0, 1, [], 0) :: (45, .iload 5, 2, [], 0) :: (47, .aload_n 2, 1, [], 0) :: (48, .lload_n 3, 1, [], 0) :: (49, .invokevirtual 159, 3, [5, 3, 57, 4, 4164, 4166, 33, 1011], 0) :: (52, .ifCond .eq 6, 3, [58], 0) :: (55, .iload 5, 2, [], 0) :: (57, .ireturn, 1, [], 0) :: c56_58
def c56_0 : List JE := (0, .aload_n 0, 1, [], 0) :: (1, .aload_n 1, 1, [], 0) :: (2, .aload_n 2, 1, [], 0) :: (3, .invokevirtual 155, 3, [5, 2, 48, 4, 4159, 4144, 4145, 1011], 0) :: (6, .lstore_n 3, 1, [], 0) :: (7, .aload_n 0, 1, [], 0) :: (8, .invokevirtual 152, 3, [5, 0, 54, 4, 4160, 4162, 32, 1011], 0) :: (11, .iconst 0, 1, [], 0) :: (12, .istore 5, 2, [], 0) :: c56_14
/-! 57 SueOrSettle$Quarrel.isBettered(ILSueOrSettle$End;J)Z -/
def c57_61 : List JE := (61, .aload_n 0, 1, [], 0) :: (62, .getfield 46, 3, [4, 9, 3053, 0], 0) :: (65, .iload_n 1, 1, [], 0) :: (66, .iload 5, 2, [], 0) :: (68, .iastore, 1, [], 0) :: (69, .iload 6, 2, [], 0) :: (71, .ireturn, 1, [1], 0) :: []
def c57_53 : List JE := (53, .istore 6, 2, [], 0) :: (55, .iinc 7 1, 3, [], 0) :: (58, .goto (-44), 3, [14], 0) :: c57_61
def c57_52 : List JE := (52, .iconst 0, 1, [], 0) :: c57_53
def c57_14 : List JE := (14, .iload 7, 2, [], 0) :: (16, .aload_n 0, 1, [], 0) :: (17, .getfield 31, 3, [4, 4, 3048, 0], 0) :: (20, .iload_n 1, 1, [], 0) :: (21, .iaload, 1, [], 0) :: (22, .if_icmp .ge 39, 3, [61], 0) :: (25, .iload 6, 2, [], 0) :: (27, .ifCond .ne 34, 3, [61], 0) :: (30, .aload_n 0, 1, [], 0) :: (31, .getfield 46, 3, [4, 9, 3053, 0], 0) :: (34, .iload_n 1, 1, [], 0) :: (35, .iload 7, 2, [], 0) :: (37, .iastore, 1, [], 0) :: (38, .aload_n 0, 1, [], 0) :: (39, .aload_n 2, 1, [], 0) :: (40, .invokevirtual 127, 3, [5, 1, 49, 4, 4147, 4148, 4149, 1011], 0) :: (43, .lload_n 3, 1, [], 0) :: (44, .lcmp, 1, [], 0) :: (45, .ifCond .le 7, 3, [52], 0) :: (48, .iconst 1, 1, [], 0) :: (49, .goto 4, 3, [53], 0) :: c57_52
def c57_0 : List JE := (0, .aload_n 0, 1, [], 0) :: (1, .getfield 46, 3, [4, 9, 3053, 0], 0) :: (4, .iload_n 1, 1, [], 0) :: (5, .iaload, 1, [], 0) :: (6, .istore 5, 2, [], 0) :: (8, .iconst 0, 1, [], 0) :: (9, .istore 6, 2, [], 0) :: (11, .iconst 0, 1, [], 0) :: (12, .istore 7, 2, [], 0) :: c57_14
/-! 58 SueOrSettle$Quarrel.massAt(LSueOrSettle$Things;I)J -/
def c58_0 : List JE := (0, .aload_n 1, 1, [], 0) :: (1, .aload_n 0, 1, [], 0) :: (2, .getfield 43, 3, [4, 8, 3052, 0], 0) :: (5, .iload_n 2, 1, [], 0) :: (6, .iaload, 1, [], 0) :: (7, .invokevirtual 145, 3, [5, 1, 161, 10, 4122, 2157, 2158, 1002], 0) :: (10, .lreturn, 1, [], 0) :: []
/-! 59 SueOrSettle$Quarrel.forkTop(LSueOrSettle$Things;II)J -/
def c59_0 : List JE := (0, .aload_n 0, 1, [], 0) :: (1, .getfield 55, 3, [4, 12, 3056, 0], 0) :: (4, .aload_n 0, 1, [], 0) :: (5, .iload_n 2, 1, [], 0) :: (6, .iload_n 3, 1, [], 0) :: (7, .invokevirtual 85, 3, [5, 2, 30, 4, 4063, 3144, 3145, 1011], 0) :: (10, .laload, 1, [], 0) :: (11, .bipush 100, 2, [], 0) :: (13, .aload_n 0, 1, [], 0) :: (14, .getfield 52, 3, [4, 11, 3055, 0], 0) :: (17, .iload_n 2, 1, [], 0) :: (18, .iaload, 1, [], 0) :: (19, .imul, 1, [], 0) :: (20, .i2l, 1, [], 0) :: (21, .aload_n 0, 1, [], 0) :: (22, .aload_n 1, 1, [], 0) :: (23, .iload_n 2, 1, [], 0) :: (24, .invokevirtual 163, 3, [5, 2, 58, 4, 4176, 4177, 4178, 1011], 0) :: (27, .lmul, 1, [], 0) :: (28, .ladd, 1, [], 0) :: (29, .lreturn, 1, [], 0) :: []
/-! 60 SueOrSettle$Quarrel.movesToTurn(LSueOrSettle$Things;IIII)I -/
def c60_185 : List JE := (185, .iload 9, 2, [], 0) :: (187, .ireturn, 1, [], 0) :: []
def c60_179 : List JE := (179, .iinc 12 1, 3, [], 0) :: (182, .goto (-28), 3, [154], 0) :: c60_185
def c60_154 : List JE := (154, .iload 12, 2, [], 0) :: (156, .iload 9, 2, [], 0) :: (158, .if_icmp .ge 27, 3, [185], 0) :: (161, .aload_n 0, 1, [], 0) :: (162, .iload 6, 2, [], 0) :: (164, .iload 12, 2, [], 0) :: (166, .i2l, 1, [], 0) :: (167, .lload 10, 2, [], 0) :: (169, .lmul, 1, [], 0) :: (170, .invokevirtual 176, 3, [5, 2, 61, 4, 4232, 4234, 35, 1011], 0) :: (173, .ifCond .eq 6, 3, [179], 0) :: (176, .iload 12, 2, [], 0) :: (178, .ireturn, 1, [], 0) :: c60_179
def c60_151 : List JE := (151, .iconst 1, 1, [], 0) :: (152, .istore 12, 2, [], 0) :: c60_154
def c60_149 : List JE := (149, .iconst 0, 1, [], 0) :: (150, .ireturn, 1, [], 0) :: c60_151
def c60_126 : List JE := (126, .lstore 10, 2, [], 0) :: (128, .iload 9, 2, [], 0) :: (130, .iconst 1, 1, [], 0) :: (131, .if_icmp .lt 18, 3, [149], 0) :: (134, .aload_n 0, 1, [], 0) :: (135, .iload 6, 2, [], 0) :: (137, .iload 9, 2, [], 0) :: (139, .i2l, 1, [], 0) :: (140, .lload 10, 2, [], 0) :: (142, .lmul, 1, [], 0) :: (143, .invokevirtual 176, 3, [5, 2, 61, 4, 4232, 4234, 35, 1011], 0) :: (146, .ifCond .ne 5, 3, [151], 0) :: c60_149
def c60_115 : List JE := (115, .ldc2_w 174, 3, [4231], (-100)) :: (118, .aload_n 0, 1, [], 0) :: (119, .aload_n 1, 1, [], 0) :: (120, .iload 6, 2, [], 0) :: (122, .invokevirtual 163, 3, [5, 2, 58, 4, 4176, 4177, 4178, 1011], 0) :: (125, .lmul, 1, [], 0) :: c60_126
def c60_98 : List JE := (98, .if_icmp .ne 17, 3, [115], 0) :: (101, .ldc2_w 172, 3, [4230], 100) :: (104, .aload_n 0, 1, [], 0) :: (105, .aload_n 1, 1, [], 0) :: (106, .iload 6, 2, [], 0) :: (108, .invokevirtual 163, 3, [5, 2, 58, 4, 4176, 4177, 4178, 1011], 0) :: (111, .lmul, 1, [], 0) :: (112, .goto 14, 3, [126], 0) :: c60_115
def c60_97 : List JE := (97, .iconst 0, 1, [], 0) :: c60_98
def c60_87 : List JE := (87, .iload 4, 2, [], 0) :: (89, .iconst 1, 1, [], 0) :: (90, .if_icmp .ne 7, 3, [97], 0) :: (93, .iconst 1, 1, [], 0) :: (94, .goto 4, 3, [98], 0) :: c60_97
def c60_86 : List JE := (86, .iconst 0, 1, [], 0) :: c60_87
def c60_72 : List JE := (72, .invokestatic 170, 3, [0, 2, 381, 4229, 3007, 1010], 0) :: (75, .istore 9, 2, [], 0) :: (77, .iload_n 3, 1, [], 0) :: (78, .iconst (-1), 1, [], 0) :: (79, .if_icmp .ne 7, 3, [86], 0) :: (82, .iconst 1, 1, [], 0) :: (83, .goto 4, 3, [87], 0) :: c60_86
def c60_70 : List JE := (70, .iload 7, 2, [], 0) :: c60_72
def c60_56 : List JE := (56, .iload_n 3, 1, [], 0) :: (57, .iconst (-1), 1, [], 0) :: (58, .if_icmp .ne 12, 3, [70], 0) :: (61, .iload 7, 2, [], 0) :: (63, .sipush 999, 3, [], 0) :: (66, .iadd, 1, [], 0) :: (67, .goto 5, 3, [72], 0) :: c60_70
def c60_38 : List JE := (38, .istore 8, 2, [], 0) :: (40, .iload 5, 2, [], 0) :: (42, .iload 4, 2, [], 0) :: (44, .iconst 1, 1, [], 0) :: (45, .if_icmp .ne 11, 3, [56], 0) :: (48, .iload 8, 2, [], 0) :: (50, .iload 7, 2, [], 0) :: (52, .isub, 1, [], 0) :: (53, .goto 19, 3, [72], 0) :: c60_56
def c60_36 : List JE := (36, .bipush 99, 2, [], 0) :: c60_38
def c60_15 : List JE := (15, .istore 6, 2, [], 0) :: (17, .aload_n 0, 1, [], 0) :: (18, .iload_n 2, 1, [], 0) :: (19, .iload_n 3, 1, [], 0) :: (20, .invokevirtual 167, 3, [5, 2, 34, 4, 4228, 3161, 3162, 1011], 0) :: (23, .istore 7, 2, [], 0) :: (25, .iload_n 3, 1, [], 0) :: (26, .iconst (-1), 1, [], 0) :: (27, .if_icmp .ne 9, 3, [36], 0) :: (30, .sipush 999, 3, [], 0) :: (33, .goto 5, 3, [38], 0) :: c60_36
def c60_9 : List JE := (9, .aload_n 0, 1, [], 0) :: (10, .iload_n 2, 1, [], 0) :: (11, .iload_n 3, 1, [], 0) :: (12, .invokevirtual 85, 3, [5, 2, 30, 4, 4063, 3144, 3145, 1011], 0) :: c60_15
def c60_0 : List JE := (0, .iload_n 3, 1, [], 0) :: (1, .iconst (-1), 1, [], 0) :: (2, .if_icmp .ne 7, 3, [9], 0) :: (5, .iload_n 2, 1, [], 0) :: (6, .goto 9, 3, [15], 0) :: c60_9
/-! 61 SueOrSettle$Quarrel.turnsFirst(IJ)Z -/
def c61_175 : List JE := (175, .iconst 0, 1, [], 0) :: (176, .ireturn, 1, [1], 0) :: []
def c61_165 : List JE := (165, .iload 8, 2, [], 0) :: (167, .istore 4, 2, [], 0) :: (169, .iinc 7 1, 3, [], 0) :: (172, .goto (-156), 3, [16], 0) :: c61_175
def c61_145 : List JE := (145, .lload 5, 2, [], 0) :: (147, .aload_n 0, 1, [], 0) :: (148, .getfield 55, 3, [4, 12, 3056, 0], 0) :: (151, .iload 8, 2, [], 0) :: (153, .laload, 1, [], 0) :: (154, .aload_n 0, 1, [], 0) :: (155, .getfield 55, 3, [4, 12, 3056, 0], 0) :: (158, .iload 4, 2, [], 0) :: (160, .laload, 1, [], 0) :: (161, .lsub, 1, [], 0) :: (162, .ladd, 1, [], 0) :: (163, .lstore 5, 2, [], 0) :: c61_165
def c61_140 : List JE := (140, .lstore 5, 2, [], 0) :: (142, .goto 23, 3, [165], 0) :: c61_145
def c61_133 : List JE := (133, .aload_n 0, 1, [], 0) :: (134, .getfield 55, 3, [4, 12, 3056, 0], 0) :: (137, .iload 9, 2, [], 0) :: (139, .laload, 1, [], 0) :: c61_140
def c61_92 : List JE := (92, .aload_n 0, 1, [], 0) :: (93, .getfield 24, 3, [4, 2, 3046, 0], 0) :: (96, .iload 8, 2, [], 0) :: (98, .iaload, 1, [], 0) :: (99, .iconst 1, 1, [], 0) :: (100, .if_icmp .ne 45, 3, [145], 0) :: (103, .aload_n 0, 1, [], 0) :: (104, .iload 8, 2, [], 0) :: (106, .aload_n 0, 1, [], 0) :: (107, .iload 8, 2, [], 0) :: (109, .iload 4, 2, [], 0) :: (111, .lload 5, 2, [], 0) :: (113, .invokevirtual 107, 3, [5, 3, 45, 4, 4082, 4084, 28, 1011], 0) :: (116, .invokevirtual 85, 3, [5, 2, 30, 4, 4063, 3144, 3145, 1011], 0) :: (119, .istore 9, 2, [], 0) :: (121, .iload 9, 2, [], 0) :: (123, .iload 4, 2, [], 0) :: (125, .if_icmp .ne 8, 3, [133], 0) :: (128, .lload 5, 2, [], 0) :: (130, .goto 10, 3, [140], 0) :: c61_133
def c61_91 : List JE := (91, .ireturn, 1, [1], 0) :: c61_92
def c61_90 : List JE := (90, .iconst 0, 1, [], 0) :: c61_91
def c61_57 : List JE := (57, .iload 8, 2, [], 0) :: (59, .aload_n 0, 1, [], 0) :: (60, .getfield 15, 3, [4, 1, 3044, 0], 0) :: (63, .if_icmp .ne 29, 3, [92], 0) :: (66, .aload_n 0, 1, [], 0) :: (67, .iload 8, 2, [], 0) :: (69, .iload 4, 2, [], 0) :: (71, .lload 5, 2, [], 0) :: (73, .invokevirtual 107, 3, [5, 3, 45, 4, 4082, 4084, 28, 1011], 0) :: (76, .aload_n 0, 1, [], 0) :: (77, .getfield 49, 3, [4, 10, 3054, 0], 0) :: (80, .iload 8, 2, [], 0) :: (82, .iaload, 1, [], 0) :: (83, .if_icmp .eq 7, 3, [90], 0) :: (86, .iconst 1, 1, [], 0) :: (87, .goto 4, 3, [91], 0) :: c61_90
def c61_16 : List JE := (16, .iload 7, 2, [], 0) :: (18, .aload_n 0, 1, [], 0) :: (19, .getfield 9, 3, [4, 0, 3042, 0], 0) :: (22, .if_icmp .ge 153, 3, [175], 0) :: (25, .aload_n 0, 1, [], 0) :: (26, .getfield 15, 3, [4, 1, 3044, 0], 0) :: (29, .ifCond .lt 146, 3, [175], 0) :: (32, .iload 4, 2, [], 0) :: (34, .aload_n 0, 1, [], 0) :: (35, .getfield 15, 3, [4, 1, 3044, 0], 0) :: (38, .if_icmp .le 137, 3, [175], 0) :: (41, .aload_n 0, 1, [], 0) :: (42, .getfield 40, 3, [4, 7, 3051, 0], 0) :: (45, .iload 4, 2, [], 0) :: (47, .iaload, 1, [], 0) :: (48, .istore 8, 2, [], 0) :: (50, .iload 8, 2, [], 0) :: (52, .ifCond .ge 5, 3, [57], 0) :: (55, .iconst 0, 1, [], 0) :: (56, .ireturn, 1, [1], 0) :: c61_57
def c61_0 : List JE := (0, .iload_n 1, 1, [], 0) :: (1, .istore 4, 2, [], 0) :: (3, .aload_n 0, 1, [], 0) :: (4, .getfield 55, 3, [4, 12, 3056, 0], 0) :: (7, .iload_n 1, 1, [], 0) :: (8, .laload, 1, [], 0) :: (9, .lload_n 2, 1, [], 0) :: (10, .ladd, 1, [], 0) :: (11, .lstore 5, 2, [], 0) :: (13, .iconst 0, 1, [], 0) :: (14, .istore 7, 2, [], 0) :: c61_16
/-! 62 SueOrSettle$Reader.<init>()V -/
def c62_0 : List JE := (0, .aload_n 0, 1, [], 0) :: (1, .invokespecial 3, 3, [6, 1065, 1023, 1024], 0) :: (4, .aload_n 0, 1, [], 0) :: (5, .iconst 0, 1, [], 0) :: (6, .putfield 9, 3, [5, 0, 1066, 0], 0) :: (9, .aload_n 0, 1, [], 0) :: (10, .iconst (-1), 1, [], 0) :: (11, .putfield 15, 3, [5, 1, 1068, 0], 0) :: (14, .aload_n 0, 1, [], 0) :: (15, .iconst 0, 1, [], 0) :: (16, .putfield 18, 3, [5, 2, 1070, 0], 0) :: (19, .aload_n 0, 1, [], 0) :: (20, .iconst 0, 1, [], 0) :: (21, .putfield 21, 3, [5, 3, 1071, 0], 0) :: (24, .aload_n 0, 1, [], 0) :: (25, .iconst 0, 1, [], 0) :: (26, .putfield 24, 3, [5, 4, 1072, 0], 0) :: (29, .aload_n 0, 1, [], 0) :: (30, .sipush 200, 3, [], 0) :: (33, .newarray .byte, 2, [], 0) :: (35, .putfield 27, 3, [5, 5, 1073, 0], 0) :: (38, .aload_n 0, 1, [], 0) :: (39, .bipush 6, 2, [], 0) :: (41, .newarray .int, 2, [], 0) :: (43, .putfield 31, 3, [5, 6, 1074, 0], 0) :: (46, .aload_n 0, 1, [], 0) :: (47, .sipush 200, 3, [], 0) :: (50, .newarray .int, 2, [], 0) :: (52, .putfield 35, 3, [5, 7, 1075, 0], 0) :: (55, .aload_n 0, 1, [], 0) :: (56, .sipush 200, 3, [], 0) :: (59, .newarray .int, 2, [], 0) :: (61, .putfield 38, 3, [5, 8, 1076, 0], 0) :: (64, .aload_n 0, 1, [], 0) :: (65, .sipush 200, 3, [], 0) :: (68, .newarray .int, 2, [], 0) :: (70, .putfield 41, 3, [5, 9, 1077, 0], 0) :: (73, .aload_n 0, 1, [], 0) :: (74, .sipush 800, 3, [], 0) :: (77, .newarray .int, 2, [], 0) :: (79, .putfield 44, 3, [5, 10, 1078, 0], 0) :: (82, .aload_n 0, 1, [], 0) :: (83, .sipush 800, 3, [], 0) :: (86, .newarray .int, 2, [], 0) :: (88, .putfield 47, 3, [5, 11, 1079, 0], 0) :: (91, .aload_n 0, 1, [], 0) :: (92, .sipush 200, 3, [], 0) :: (95, .newarray .int, 2, [], 0) :: (97, .putfield 50, 3, [5, 12, 1080, 0], 0) :: (100, .aload_n 0, 1, [], 0) :: (101, .sipush 200, 3, [], 0) :: (104, .newarray .int, 2, [], 0) :: (106, .putfield 53, 3, [5, 13, 1081, 0], 0) :: (109, .aload_n 0, 1, [], 0) :: (110, .sipush 200, 3, [], 0) :: (113, .newarray .int, 2, [], 0) :: (115, .putfield 56, 3, [5, 14, 1082, 0], 0) :: (118, .return_, 1, [], 0) :: []
/-! 63 SueOrSettle$Reader.hasRoom(I)Z -/
def c63_17 : List JE := (17, .ireturn, 1, [1], 0) :: []
def c63_16 : List JE := (16, .iconst 0, 1, [], 0) :: c63_17
def c63_0 : List JE := (0, .iload_n 1, 1, [], 0) :: (1, .sipush 200, 3, [], 0) :: (4, .aload_n 0, 1, [], 0) :: (5, .getfield 9, 3, [5, 0, 1066, 0], 0) :: (8, .isub, 1, [], 0) :: (9, .if_icmp .gt 7, 3, [16], 0) :: (12, .iconst 1, 1, [], 0) :: (13, .goto 4, 3, [17], 0) :: c63_16
/-! 64 SueOrSettle$Reader.take(II)I -/
def c64_49 : List JE := (49, .aload_n 0, 1, [], 0) :: (50, .getfield 9, 3, [5, 0, 1066, 0], 0) :: (53, .ireturn, 1, [], 0) :: []
def c64_2 : List JE := (2, .iload_n 3, 1, [], 0) :: (3, .iload_n 1, 1, [], 0) :: (4, .if_icmp .ge 45, 3, [49], 0) :: (7, .aload_n 0, 1, [], 0) :: (8, .getfield 9, 3, [5, 0, 1066, 0], 0) :: (11, .sipush 200, 3, [], 0) :: (14, .if_icmp .ge 35, 3, [49], 0) :: (17, .aload_n 0, 1, [], 0) :: (18, .getfield 27, 3, [5, 5, 1073, 0], 0) :: (21, .aload_n 0, 1, [], 0) :: (22, .getfield 9, 3, [5, 0, 1066, 0], 0) :: (25, .iload_n 2, 1, [], 0) :: (26, .bipush 8, 2, [], 0) :: (28, .iload_n 3, 1, [], 0) :: (29, .imul, 1, [], 0) :: (30, .ishr, 1, [], 0) :: (31, .i2b, 1, [], 0) :: (32, .bastore, 1, [22], 0) :: (33, .aload_n 0, 1, [], 0) :: (34, .dup, 1, [], 0) :: (35, .getfield 9, 3, [5, 0, 1066, 0], 0) :: (38, .iconst 1, 1, [], 0) :: (39, .iadd, 1, [], 0) :: (40, .putfield 9, 3, [5, 0, 1066, 0], 0) :: (43, .iinc 3 1, 3, [], 0) :: (46, .goto (-44), 3, [2], 0) :: c64_49
def c64_0 : List JE := (0, .iconst 0, 1, [], 0) :: (1, .istore_n 3, 1, [], 0) :: c64_2
/-! 65 SueOrSettle$Reader.forget()V -/
def c65_0 : List JE := (0, .aload_n 0, 1, [], 0) :: (1, .iconst 0, 1, [], 0) :: (2, .putfield 9, 3, [5, 0, 1066, 0], 0) :: (5, .return_, 1, [], 0) :: []
/-! 66 SueOrSettle$Reader.sizeOf(I)I -/
def c66_22 : List JE := (22, .ireturn, 1, [], 0) :: []
def c66_16 : List JE := (16, .aload_n 0, 1, [], 0) :: (17, .getfield 56, 3, [5, 14, 1082, 0], 0) :: (20, .iload_n 1, 1, [], 0) :: (21, .iaload, 1, [], 0) :: c66_22
def c66_12 : List JE := (12, .iconst 0, 1, [], 0) :: (13, .goto 9, 3, [22], 0) :: c66_16
def c66_0 : List JE := (0, .iload_n 1, 1, [], 0) :: (1, .ifCond .lt 11, 3, [12], 0) :: (4, .iload_n 1, 1, [], 0) :: (5, .aload_n 0, 1, [], 0) :: (6, .getfield 21, 3, [5, 3, 1071, 0], 0) :: (9, .if_icmp .lt 7, 3, [16], 0) :: c66_12
/-! 67 SueOrSettle$Reader.readText(LSueOrSettle$Things;)I -/
def c67_151 : List JE := (151, .ireturn, 1, [], 0) :: []
def c67_150 : List JE := (150, .iload_n 2, 1, [], 0) :: c67_151
def c67_139 : List JE := (139, .aload_n 0, 1, [], 0) :: (140, .getfield 15, 3, [5, 1, 1068, 0], 0) :: (143, .ifCond .lt 7, 3, [150], 0) :: (146, .iconst (-1), 1, [], 0) :: (147, .goto 4, 3, [151], 0) :: c67_150
def c67_105 : List JE := (105, .aload_n 0, 1, [], 0) :: (106, .aload_n 1, 1, [], 0) :: (107, .iconst 0, 1, [], 0) :: (108, .iconst 0, 1, [], 0) :: (109, .invokevirtual 67, 3, [5, 3, 74, 5, 2215, 2217, 10, 1003], 0) :: (112, .istore_n 2, 1, [], 0) :: (113, .aload_n 0, 1, [], 0) :: (114, .getfield 15, 3, [5, 1, 1068, 0], 0) :: (117, .ifCond .ge 22, 3, [139], 0) :: (120, .aload_n 0, 1, [], 0) :: (121, .getfield 18, 3, [5, 2, 1070, 0], 0) :: (124, .aload_n 0, 1, [], 0) :: (125, .getfield 9, 3, [5, 0, 1066, 0], 0) :: (128, .if_icmp .ge 11, 3, [139], 0) :: (131, .aload_n 0, 1, [], 0) :: (132, .aload_n 0, 1, [], 0) :: (133, .getfield 18, 3, [5, 2, 1070, 0], 0) :: (136, .putfield 15, 3, [5, 1, 1068, 0], 0) :: c67_139
def c67_82 : List JE := (82, .aload_n 0, 1, [], 0) :: (83, .getfield 31, 3, [5, 6, 1074, 0], 0) :: (86, .aload_n 0, 1, [], 0) :: (87, .getfield 24, 3, [5, 4, 1072, 0], 0) :: (90, .iload_n 2, 1, [], 0) :: (91, .iastore, 1, [], 0) :: (92, .aload_n 0, 1, [], 0) :: (93, .dup, 1, [], 0) :: (94, .getfield 24, 3, [5, 4, 1072, 0], 0) :: (97, .iconst 1, 1, [], 0) :: (98, .iadd, 1, [], 0) :: (99, .putfield 24, 3, [5, 4, 1072, 0], 0) :: (102, .goto (-82), 3, [20], 0) :: c67_105
def c67_20 : List JE := (20, .aload_n 0, 1, [], 0) :: (21, .getfield 24, 3, [5, 4, 1072, 0], 0) :: (24, .bipush 6, 2, [], 0) :: (26, .if_icmp .ge 79, 3, [105], 0) :: (29, .aload_n 0, 1, [], 0) :: (30, .invokevirtual 59, 3, [5, 0, 68, 5, 2203, 2205, 7, 1003], 0) :: (33, .bipush 65, 2, [], 0) :: (35, .aload_n 0, 1, [], 0) :: (36, .getfield 24, 3, [5, 4, 1072, 0], 0) :: (39, .iadd, 1, [], 0) :: (40, .if_icmp .ne 65, 3, [105], 0) :: (43, .aload_n 0, 1, [], 0) :: (44, .dup, 1, [], 0) :: (45, .getfield 18, 3, [5, 2, 1070, 0], 0) :: (48, .iconst 1, 1, [], 0) :: (49, .iadd, 1, [], 0) :: (50, .putfield 18, 3, [5, 2, 1070, 0], 0) :: (53, .aload_n 0, 1, [], 0) :: (54, .bipush 61, 2, [], 0) :: (56, .invokevirtual 63, 3, [5, 1, 71, 5, 2207, 2209, 8, 1003], 0) :: (59, .aload_n 0, 1, [], 0) :: (60, .aload_n 1, 1, [], 0) :: (61, .iconst 0, 1, [], 0) :: (62, .iconst 0, 1, [], 0) :: (63, .invokevirtual 67, 3, [5, 3, 74, 5, 2215, 2217, 10, 1003], 0) :: (66, .istore_n 2, 1, [], 0) :: (67, .aload_n 0, 1, [], 0) :: (68, .bipush 59, 2, [], 0) :: (70, .invokevirtual 63, 3, [5, 1, 71, 5, 2207, 2209, 8, 1003], 0) :: (73, .aload_n 0, 1, [], 0) :: (74, .getfield 15, 3, [5, 1, 1068, 0], 0) :: (77, .ifCond .lt 5, 3, [82], 0) :: (80, .iconst (-1), 1, [], 0) :: (81, .ireturn, 1, [], 0) :: c67_82
def c67_0 : List JE := (0, .aload_n 0, 1, [], 0) :: (1, .iconst 0, 1, [], 0) :: (2, .putfield 18, 3, [5, 2, 1070, 0], 0) :: (5, .aload_n 0, 1, [], 0) :: (6, .iconst (-1), 1, [], 0) :: (7, .putfield 15, 3, [5, 1, 1068, 0], 0) :: (10, .aload_n 0, 1, [], 0) :: (11, .iconst 0, 1, [], 0) :: (12, .putfield 21, 3, [5, 3, 1071, 0], 0) :: (15, .aload_n 0, 1, [], 0) :: (16, .iconst 0, 1, [], 0) :: (17, .putfield 24, 3, [5, 4, 1072, 0], 0) :: c67_20
/-! 68 SueOrSettle$Reader.sign()I -/
def c68_28 : List JE := (28, .ireturn, 1, [], 0) :: []
def c68_27 : List JE := (27, .iconst (-1), 1, [], 0) :: c68_28
def c68_0 : List JE := (0, .aload_n 0, 1, [], 0) :: (1, .getfield 18, 3, [5, 2, 1070, 0], 0) :: (4, .aload_n 0, 1, [], 0) :: (5, .getfield 9, 3, [5, 0, 1066, 0], 0) :: (8, .if_icmp .ge 19, 3, [27], 0) :: (11, .aload_n 0, 1, [], 0) :: (12, .getfield 27, 3, [5, 5, 1073, 0], 0) :: (15, .aload_n 0, 1, [], 0) :: (16, .getfield 18, 3, [5, 2, 1070, 0], 0) :: (19, .baload, 1, [22], 0) :: (20, .sipush 255, 3, [], 0) :: (23, .iand, 1, [], 0) :: (24, .goto 4, 3, [28], 0) :: c68_27
/-! 69 SueOrSettle$Reader.isDigit()Z -/
def c69_23 : List JE := (23, .ireturn, 1, [1], 0) :: []
def c69_22 : List JE := (22, .iconst 0, 1, [], 0) :: c69_23
def c69_0 : List JE := (0, .aload_n 0, 1, [], 0) :: (1, .invokevirtual 59, 3, [5, 0, 68, 5, 2203, 2205, 7, 1003], 0) :: (4, .bipush 48, 2, [], 0) :: (6, .if_icmp .lt 16, 3, [22], 0) :: (9, .aload_n 0, 1, [], 0) :: (10, .invokevirtual 59, 3, [5, 0, 68, 5, 2203, 2205, 7, 1003], 0) :: (13, .bipush 57, 2, [], 0) :: (15, .if_icmp .gt 7, 3, [22], 0) :: (18, .iconst 1, 1, [], 0) :: (19, .goto 4, 3, [23], 0) :: c69_22
/-! 70 SueOrSettle$Reader.fail()V -/
def c70_15 : List JE := (15, .return_, 1, [], 0) :: []
def c70_0 : List JE := (0, .aload_n 0, 1, [], 0) :: (1, .getfield 15, 3, [5, 1, 1068, 0], 0) :: (4, .ifCond .ge 11, 3, [15], 0) :: (7, .aload_n 0, 1, [], 0) :: (8, .aload_n 0, 1, [], 0) :: (9, .getfield 18, 3, [5, 2, 1070, 0], 0) :: (12, .putfield 15, 3, [5, 1, 1068, 0], 0) :: c70_15
/-! 71 SueOrSettle$Reader.pass(I)V -/
def c71_33 : List JE := (33, .return_, 1, [], 0) :: []
def c71_29 : List JE := (29, .aload_n 0, 1, [], 0) :: (30, .invokevirtual 71, 3, [5, 0, 70, 5, 2211, 2213, 9, 1003], 0) :: c71_33
def c71_8 : List JE := (8, .aload_n 0, 1, [], 0) :: (9, .invokevirtual 59, 3, [5, 0, 68, 5, 2203, 2205, 7, 1003], 0) :: (12, .iload_n 1, 1, [], 0) :: (13, .if_icmp .ne 16, 3, [29], 0) :: (16, .aload_n 0, 1, [], 0) :: (17, .dup, 1, [], 0) :: (18, .getfield 18, 3, [5, 2, 1070, 0], 0) :: (21, .iconst 1, 1, [], 0) :: (22, .iadd, 1, [], 0) :: (23, .putfield 18, 3, [5, 2, 1070, 0], 0) :: (26, .goto 7, 3, [33], 0) :: c71_29
def c71_0 : List JE := (0, .aload_n 0, 1, [], 0) :: (1, .getfield 15, 3, [5, 1, 1068, 0], 0) :: (4, .ifCond .lt 4, 3, [8], 0) :: (7, .return_, 1, [], 0) :: c71_8
/-! 72 SueOrSettle$Reader.passOpening(I)V -/
def c72_10 : List JE := (10, .aload_n 0, 1, [], 0) :: (11, .bipush 40, 2, [], 0) :: (13, .invokevirtual 63, 3, [5, 1, 71, 5, 2207, 2209, 8, 1003], 0) :: (16, .return_, 1, [], 0) :: []
def c72_0 : List JE := (0, .iload_n 1, 1, [], 0) :: (1, .bipush 12, 2, [], 0) :: (3, .if_icmp .lt 7, 3, [10], 0) :: (6, .aload_n 0, 1, [], 0) :: (7, .invokevirtual 71, 3, [5, 0, 70, 5, 2211, 2213, 9, 1003], 0) :: c72_10
/-! 73 SueOrSettle$Reader.newNode(I)I -/
def c73_16 : List JE := (16, .aload_n 0, 1, [], 0) :: (17, .getfield 35, 3, [5, 7, 1075, 0], 0) :: (20, .aload_n 0, 1, [], 0) :: (21, .getfield 21, 3, [5, 3, 1071, 0], 0) :: (24, .iload_n 1, 1, [], 0) :: (25, .iastore, 1, [], 0) :: (26, .aload_n 0, 1, [], 0) :: (27, .getfield 38, 3, [5, 8, 1076, 0], 0) :: (30, .aload_n 0, 1, [], 0) :: (31, .getfield 21, 3, [5, 3, 1071, 0], 0) :: (34, .iconst 0, 1, [], 0) :: (35, .iastore, 1, [], 0) :: (36, .aload_n 0, 1, [], 0) :: (37, .getfield 41, 3, [5, 9, 1077, 0], 0) :: (40, .aload_n 0, 1, [], 0) :: (41, .getfield 21, 3, [5, 3, 1071, 0], 0) :: (44, .iconst 0, 1, [], 0) :: (45, .iastore, 1, [], 0) :: (46, .aload_n 0, 1, [], 0) :: (47, .getfield 50, 3, [5, 12, 1080, 0], 0) :: (50, .aload_n 0, 1, [], 0) :: (51, .getfield 21, 3, [5, 3, 1071, 0], 0) :: (54, .iconst 0, 1, [], 0) :: (55, .iastore, 1, [], 0) :: (56, .aload_n 0, 1, [], 0) :: (57, .getfield 53, 3, [5, 13, 1081, 0], 0) :: (60, .aload_n 0, 1, [], 0) :: (61, .getfield 21, 3, [5, 3, 1071, 0], 0) :: (64, .iconst 0, 1, [], 0) :: (65, .iastore, 1, [], 0) :: (66, .aload_n 0, 1, [], 0) :: (67, .getfield 56, 3, [5, 14, 1082, 0], 0) :: (70, .aload_n 0, 1, [], 0) :: (71, .getfield 21, 3, [5, 3, 1071, 0], 0) :: (74, .iconst 1, 1, [], 0) :: (75, .iastore, 1, [], 0) :: (76, .aload_n 0, 1, [], 0) :: (77, .dup, 1, [], 0) :: (78, .getfield 21, 3, [5, 3, 1071, 0], 0) :: (81, .iconst 1, 1, [], 0) :: (82, .iadd, 1, [], 0) :: (83, .putfield 21, 3, [5, 3, 1071, 0], 0) :: (86, .aload_n 0, 1, [], 0) :: (87, .getfield 21, 3, [5, 3, 1071, 0], 0) :: (90, .iconst 1, 1, [], 0) :: (91, .isub, 1, [], 0) :: (92, .ireturn, 1, [], 0) :: []
def c73_0 : List JE := (0, .aload_n 0, 1, [], 0) :: (1, .getfield 21, 3, [5, 3, 1071, 0], 0) :: (4, .sipush 200, 3, [], 0) :: (7, .if_icmp .lt 9, 3, [16], 0) :: (10, .aload_n 0, 1, [], 0) :: (11, .invokevirtual 71, 3, [5, 0, 70, 5, 2211, 2213, 9, 1003], 0) :: (14, .iconst (-1), 1, [], 0) :: (15, .ireturn, 1, [], 0) :: c73_16
/-! 74 SueOrSettle$Reader.readNode(LSueOrSettle$Things;II)I -/
def c74_82 : List JE := (82, .ireturn, 1, [], 0) :: []
def c74_78 : List JE := (78, .aload_n 0, 1, [], 0) :: (79, .invokevirtual 84, 3, [5, 0, 75, 5, 3022, 3024, 19, 1003], 0) :: c74_82
def c74_55 : List JE := (55, .iload 4, 2, [], 0) :: (57, .bipush 65, 2, [], 0) :: (59, .if_icmp .lt 19, 3, [78], 0) :: (62, .iload 4, 2, [], 0) :: (64, .bipush 71, 2, [], 0) :: (66, .if_icmp .ge 12, 3, [78], 0) :: (69, .aload_n 0, 1, [], 0) :: (70, .iload_n 2, 1, [], 0) :: (71, .iload_n 3, 1, [], 0) :: (72, .invokevirtual 80, 3, [5, 2, 77, 5, 3018, 3020, 18, 1003], 0) :: (75, .goto 7, 3, [82], 0) :: c74_78
def c74_40 : List JE := (40, .iload 4, 2, [], 0) :: (42, .bipush 33, 2, [], 0) :: (44, .if_icmp .ne 11, 3, [55], 0) :: (47, .aload_n 0, 1, [], 0) :: (48, .aload_n 1, 1, [], 0) :: (49, .iload_n 2, 1, [], 0) :: (50, .iload_n 3, 1, [], 0) :: (51, .invokevirtual 77, 3, [5, 3, 79, 5, 3009, 3011, 17, 1003], 0) :: (54, .ireturn, 1, [], 0) :: c74_55
def c74_19 : List JE := (19, .aload_n 0, 1, [], 0) :: (20, .invokevirtual 59, 3, [5, 0, 68, 5, 2203, 2205, 7, 1003], 0) :: (23, .istore 4, 2, [], 0) :: (25, .iload 4, 2, [], 0) :: (27, .bipush 63, 2, [], 0) :: (29, .if_icmp .ne 11, 3, [40], 0) :: (32, .aload_n 0, 1, [], 0) :: (33, .aload_n 1, 1, [], 0) :: (34, .iload_n 2, 1, [], 0) :: (35, .iload_n 3, 1, [], 0) :: (36, .invokevirtual 74, 3, [5, 3, 78, 5, 2219, 2221, 11, 1003], 0) :: (39, .ireturn, 1, [], 0) :: c74_40
def c74_13 : List JE := (13, .aload_n 0, 1, [], 0) :: (14, .invokevirtual 71, 3, [5, 0, 70, 5, 2211, 2213, 9, 1003], 0) :: (17, .iconst (-1), 1, [], 0) :: (18, .ireturn, 1, [], 0) :: c74_19
def c74_0 : List JE := (0, .aload_n 0, 1, [], 0) :: (1, .getfield 15, 3, [5, 1, 1068, 0], 0) :: (4, .ifCond .ge 9, 3, [13], 0) :: (7, .iload_n 2, 1, [], 0) :: (8, .bipush 12, 2, [], 0) :: (10, .if_icmp .le 9, 3, [19], 0) :: c74_13
/-! 75 SueOrSettle$Reader.readEnd()I -/
def c75_69 : List JE := (69, .iastore, 1, [], 0) :: (70, .iload_n 3, 1, [], 0) :: (71, .ireturn, 1, [], 0) :: []
def c75_68 : List JE := (68, .iload_n 2, 1, [], 0) :: c75_69
def c75_54 : List JE := (54, .aload_n 0, 1, [], 0) :: (55, .getfield 38, 3, [5, 8, 1076, 0], 0) :: (58, .iload_n 3, 1, [], 0) :: (59, .iload_n 1, 1, [], 0) :: (60, .ifCond .eq 8, 3, [68], 0) :: (63, .iload_n 2, 1, [], 0) :: (64, .ineg, 1, [], 0) :: (65, .goto 4, 3, [69], 0) :: c75_68
def c75_52 : List JE := (52, .iconst (-1), 1, [], 0) :: (53, .ireturn, 1, [], 0) :: c75_54
def c75_29 : List JE := (29, .aload_n 0, 1, [], 0) :: (30, .iconst 3, 1, [], 0) :: (31, .invokevirtual 87, 3, [5, 1, 76, 5, 2231, 2233, 14, 1003], 0) :: (34, .istore_n 2, 1, [], 0) :: (35, .aload_n 0, 1, [], 0) :: (36, .iconst 0, 1, [], 0) :: (37, .invokevirtual 91, 3, [5, 1, 73, 5, 2227, 2229, 13, 1003], 0) :: (40, .istore_n 3, 1, [], 0) :: (41, .aload_n 0, 1, [], 0) :: (42, .getfield 15, 3, [5, 1, 1068, 0], 0) :: (45, .ifCond .ge 7, 3, [52], 0) :: (48, .iload_n 3, 1, [], 0) :: (49, .ifCond .ge 5, 3, [54], 0) :: c75_52
def c75_14 : List JE := (14, .istore_n 1, 1, [], 0) :: (15, .iload_n 1, 1, [], 0) :: (16, .ifCond .eq 13, 3, [29], 0) :: (19, .aload_n 0, 1, [], 0) :: (20, .dup, 1, [], 0) :: (21, .getfield 18, 3, [5, 2, 1070, 0], 0) :: (24, .iconst 1, 1, [], 0) :: (25, .iadd, 1, [], 0) :: (26, .putfield 18, 3, [5, 2, 1070, 0], 0) :: c75_29
def c75_13 : List JE := (13, .iconst 0, 1, [], 0) :: c75_14
def c75_0 : List JE := (0, .aload_n 0, 1, [], 0) :: (1, .invokevirtual 59, 3, [5, 0, 68, 5, 2203, 2205, 7, 1003], 0) :: (4, .bipush 45, 2, [], 0) :: (6, .if_icmp .ne 7, 3, [13], 0) :: (9, .iconst 1, 1, [], 0) :: (10, .goto 4, 3, [14], 0) :: c75_13
/-! 76 SueOrSettle$Reader.readNumber(I)I -/
def c76_63 : List JE := (63, .iload_n 2, 1, [], 0) :: (64, .ireturn, 1, [], 0) :: []
def c76_15 : List JE := (15, .iload_n 3, 1, [], 0) :: (16, .iload_n 1, 1, [], 0) :: (17, .if_icmp .ge 46, 3, [63], 0) :: (20, .aload_n 0, 1, [], 0) :: (21, .getfield 15, 3, [5, 1, 1068, 0], 0) :: (24, .ifCond .ge 39, 3, [63], 0) :: (27, .aload_n 0, 1, [], 0) :: (28, .invokevirtual 94, 3, [5, 0, 69, 5, 2235, 2237, 15, 1003], 0) :: (31, .ifCond .eq 32, 3, [63], 0) :: (34, .bipush 10, 2, [], 0) :: (36, .iload_n 2, 1, [], 0) :: (37, .imul, 1, [], 0) :: (38, .aload_n 0, 1, [], 0) :: (39, .invokevirtual 59, 3, [5, 0, 68, 5, 2203, 2205, 7, 1003], 0) :: (42, .iadd, 1, [], 0) :: (43, .bipush 48, 2, [], 0) :: (45, .isub, 1, [], 0) :: (46, .istore_n 2, 1, [], 0) :: (47, .aload_n 0, 1, [], 0) :: (48, .dup, 1, [], 0) :: (49, .getfield 18, 3, [5, 2, 1070, 0], 0) :: (52, .iconst 1, 1, [], 0) :: (53, .iadd, 1, [], 0) :: (54, .putfield 18, 3, [5, 2, 1070, 0], 0) :: (57, .iinc 3 1, 3, [], 0) :: (60, .goto (-45), 3, [15], 0) :: c76_63
def c76_13 : List JE := (13, .iconst 0, 1, [], 0) :: (14, .istore_n 3, 1, [], 0) :: c76_15
def c76_0 : List JE := (0, .iconst 0, 1, [], 0) :: (1, .istore_n 2, 1, [], 0) :: (2, .aload_n 0, 1, [], 0) :: (3, .invokevirtual 94, 3, [5, 0, 69, 5, 2235, 2237, 15, 1003], 0) :: (6, .ifCond .ne 7, 3, [13], 0) :: (9, .aload_n 0, 1, [], 0) :: (10, .invokevirtual 71, 3, [5, 0, 70, 5, 2211, 2213, 9, 1003], 0) :: c76_13
/-! 77 SueOrSettle$Reader.readCapital(II)I -/
def c77_66 : List JE := (66, .aload_n 0, 1, [], 0) :: (67, .dup, 1, [], 0) :: (68, .getfield 18, 3, [5, 2, 1070, 0], 0) :: (71, .iconst 1, 1, [], 0) :: (72, .iadd, 1, [], 0) :: (73, .putfield 18, 3, [5, 2, 1070, 0], 0) :: (76, .iload 4, 2, [], 0) :: (78, .ireturn, 1, [], 0) :: []
def c77_60 : List JE := (60, .aload_n 0, 1, [], 0) :: (61, .invokevirtual 71, 3, [5, 0, 70, 5, 2211, 2213, 9, 1003], 0) :: (64, .iconst (-1), 1, [], 0) :: (65, .ireturn, 1, [], 0) :: c77_66
def c77_26 : List JE := (26, .aload_n 0, 1, [], 0) :: (27, .getfield 31, 3, [5, 6, 1074, 0], 0) :: (30, .iload_n 3, 1, [], 0) :: (31, .iaload, 1, [], 0) :: (32, .istore 4, 2, [], 0) :: (34, .aload_n 0, 1, [], 0) :: (35, .getfield 50, 3, [5, 12, 1080, 0], 0) :: (38, .iload 4, 2, [], 0) :: (40, .iaload, 1, [], 0) :: (41, .iload_n 2, 1, [], 0) :: (42, .iand, 1, [], 0) :: (43, .ifCond .ne 17, 3, [60], 0) :: (46, .iload_n 1, 1, [], 0) :: (47, .aload_n 0, 1, [], 0) :: (48, .getfield 53, 3, [5, 13, 1081, 0], 0) :: (51, .iload 4, 2, [], 0) :: (53, .iaload, 1, [], 0) :: (54, .iadd, 1, [], 0) :: (55, .bipush 12, 2, [], 0) :: (57, .if_icmp .le 9, 3, [66], 0) :: c77_60
def c77_20 : List JE := (20, .aload_n 0, 1, [], 0) :: (21, .invokevirtual 71, 3, [5, 0, 70, 5, 2211, 2213, 9, 1003], 0) :: (24, .iconst (-1), 1, [], 0) :: (25, .ireturn, 1, [], 0) :: c77_26
def c77_0 : List JE := (0, .aload_n 0, 1, [], 0) :: (1, .invokevirtual 59, 3, [5, 0, 68, 5, 2203, 2205, 7, 1003], 0) :: (4, .bipush 65, 2, [], 0) :: (6, .isub, 1, [], 0) :: (7, .istore_n 3, 1, [], 0) :: (8, .iload_n 3, 1, [], 0) :: (9, .ifCond .lt 11, 3, [20], 0) :: (12, .iload_n 3, 1, [], 0) :: (13, .aload_n 0, 1, [], 0) :: (14, .getfield 24, 3, [5, 4, 1072, 0], 0) :: (17, .if_icmp .lt 9, 3, [26], 0) :: c77_20
/-! 78 SueOrSettle$Reader.readChoice(LSueOrSettle$Things;II)I -/
def c78_119 : List JE := (119, .ireturn, 1, [], 0) :: []
def c78_117 : List JE := (117, .iload 4, 2, [], 0) :: c78_119
def c78_100 : List JE := (100, .aload_n 0, 1, [], 0) :: (101, .bipush 41, 2, [], 0) :: (103, .invokevirtual 63, 3, [5, 1, 71, 5, 2207, 2209, 8, 1003], 0) :: (106, .aload_n 0, 1, [], 0) :: (107, .getfield 15, 3, [5, 1, 1068, 0], 0) :: (110, .ifCond .lt 7, 3, [117], 0) :: (113, .iconst (-1), 1, [], 0) :: (114, .goto 5, 3, [119], 0) :: c78_117
def c78_88 : List JE := (88, .aload_n 0, 1, [], 0) :: (89, .bipush 44, 2, [], 0) :: (91, .invokevirtual 63, 3, [5, 1, 71, 5, 2207, 2209, 8, 1003], 0) :: (94, .iinc 5 1, 3, [], 0) :: (97, .goto (-72), 3, [25], 0) :: c78_100
def c78_25 : List JE := (25, .iload 5, 2, [], 0) :: (27, .iconst 4, 1, [], 0) :: (28, .if_icmp .ge 72, 3, [100], 0) :: (31, .aload_n 0, 1, [], 0) :: (32, .getfield 15, 3, [5, 1, 1068, 0], 0) :: (35, .ifCond .ge 65, 3, [100], 0) :: (38, .aload_n 0, 1, [], 0) :: (39, .iconst 2, 1, [], 0) :: (40, .invokevirtual 87, 3, [5, 1, 76, 5, 2231, 2233, 14, 1003], 0) :: (43, .istore 6, 2, [], 0) :: (45, .aload_n 0, 1, [], 0) :: (46, .bipush 58, 2, [], 0) :: (48, .invokevirtual 63, 3, [5, 1, 71, 5, 2207, 2209, 8, 1003], 0) :: (51, .aload_n 0, 1, [], 0) :: (52, .iload 4, 2, [], 0) :: (54, .iload 5, 2, [], 0) :: (56, .iload 6, 2, [], 0) :: (58, .aload_n 0, 1, [], 0) :: (59, .aload_n 1, 1, [], 0) :: (60, .iload_n 2, 1, [], 0) :: (61, .iconst 1, 1, [], 0) :: (62, .iadd, 1, [], 0) :: (63, .iload_n 3, 1, [], 0) :: (64, .invokevirtual 67, 3, [5, 3, 74, 5, 2215, 2217, 10, 1003], 0) :: (67, .invokevirtual 101, 3, [5, 4, 80, 5, 2239, 3001, 16, 1003], 0) :: (70, .aload_n 0, 1, [], 0) :: (71, .invokevirtual 59, 3, [5, 0, 68, 5, 2203, 2205, 7, 1003], 0) :: (74, .bipush 44, 2, [], 0) :: (76, .if_icmp .ne 24, 3, [100], 0) :: (79, .iload 5, 2, [], 0) :: (81, .iconst 3, 1, [], 0) :: (82, .if_icmp .ne 6, 3, [88], 0) :: (85, .goto 15, 3, [100], 0) :: c78_88
def c78_0 : List JE := (0, .aload_n 0, 1, [], 0) :: (1, .dup, 1, [], 0) :: (2, .getfield 18, 3, [5, 2, 1070, 0], 0) :: (5, .iconst 1, 1, [], 0) :: (6, .iadd, 1, [], 0) :: (7, .putfield 18, 3, [5, 2, 1070, 0], 0) :: (10, .aload_n 0, 1, [], 0) :: (11, .iload_n 2, 1, [], 0) :: (12, .invokevirtual 98, 3, [5, 1, 72, 5, 2223, 2225, 12, 1003], 0) :: (15, .aload_n 0, 1, [], 0) :: (16, .iconst 1, 1, [], 0) :: (17, .invokevirtual 91, 3, [5, 1, 73, 5, 2227, 2229, 13, 1003], 0) :: (20, .istore 4, 2, [], 0) :: (22, .iconst 0, 1, [], 0) :: (23, .istore 5, 2, [], 0) :: c78_25
/-! 79 SueOrSettle$Reader.readTurns(LSueOrSettle$Things;II)I -/
def c79_146 : List JE := (146, .aload_n 0, 1, [], 0) :: (147, .getfield 38, 3, [5, 8, 1076, 0], 0) :: (150, .iload 5, 2, [], 0) :: (152, .iload 4, 2, [], 0) :: (154, .iastore, 1, [], 0) :: (155, .aload_n 0, 1, [], 0) :: (156, .getfield 50, 3, [5, 12, 1080, 0], 0) :: (159, .iload 5, 2, [], 0) :: (161, .dup2, 1, [], 0) :: (162, .iaload, 1, [], 0) :: (163, .iconst 1, 1, [], 0) :: (164, .iload 4, 2, [], 0) :: (166, .ishl, 1, [], 0) :: (167, .ior, 1, [], 0) :: (168, .iastore, 1, [], 0) :: (169, .iload 5, 2, [], 0) :: (171, .ireturn, 1, [], 0) :: []
def c79_144 : List JE := (144, .iconst (-1), 1, [], 0) :: (145, .ireturn, 1, [], 0) :: c79_146
def c79_126 : List JE := (126, .aload_n 0, 1, [], 0) :: (127, .bipush 41, 2, [], 0) :: (129, .invokevirtual 63, 3, [5, 1, 71, 5, 2207, 2209, 8, 1003], 0) :: (132, .aload_n 0, 1, [], 0) :: (133, .getfield 15, 3, [5, 1, 1068, 0], 0) :: (136, .ifCond .ge 8, 3, [144], 0) :: (139, .iload 5, 2, [], 0) :: (141, .ifCond .ge 5, 3, [146], 0) :: c79_144
def c79_97 : List JE := (97, .aload_n 0, 1, [], 0) :: (98, .iload 5, 2, [], 0) :: (100, .iload 6, 2, [], 0) :: (102, .iconst 0, 1, [], 0) :: (103, .aload_n 0, 1, [], 0) :: (104, .aload_n 1, 1, [], 0) :: (105, .iload_n 2, 1, [], 0) :: (106, .iconst 1, 1, [], 0) :: (107, .iadd, 1, [], 0) :: (108, .iload_n 3, 1, [], 0) :: (109, .iconst 1, 1, [], 0) :: (110, .iload 4, 2, [], 0) :: (112, .ishl, 1, [], 0) :: (113, .ior, 1, [], 0) :: (114, .invokevirtual 67, 3, [5, 3, 74, 5, 2215, 2217, 10, 1003], 0) :: (117, .invokevirtual 101, 3, [5, 4, 80, 5, 2239, 3001, 16, 1003], 0) :: (120, .iinc 6 1, 3, [], 0) :: (123, .goto (-55), 3, [68], 0) :: c79_126
def c79_68 : List JE := (68, .iload 6, 2, [], 0) :: (70, .aload_n 1, 1, [], 0) :: (71, .iload 4, 2, [], 0) :: (73, .invokevirtual 111, 3, [5, 1, 141, 10, 3014, 3015, 3016, 1002], 0) :: (76, .if_icmp .ge 50, 3, [126], 0) :: (79, .aload_n 0, 1, [], 0) :: (80, .getfield 15, 3, [5, 1, 1068, 0], 0) :: (83, .ifCond .ge 43, 3, [126], 0) :: (86, .iload 6, 2, [], 0) :: (88, .ifCond .le 9, 3, [97], 0) :: (91, .aload_n 0, 1, [], 0) :: (92, .bipush 44, 2, [], 0) :: (94, .invokevirtual 63, 3, [5, 1, 71, 5, 2207, 2209, 8, 1003], 0) :: c79_97
def c79_43 : List JE := (43, .aload_n 0, 1, [], 0) :: (44, .dup, 1, [], 0) :: (45, .getfield 18, 3, [5, 2, 1070, 0], 0) :: (48, .iconst 1, 1, [], 0) :: (49, .iadd, 1, [], 0) :: (50, .putfield 18, 3, [5, 2, 1070, 0], 0) :: (53, .aload_n 0, 1, [], 0) :: (54, .iload_n 2, 1, [], 0) :: (55, .invokevirtual 98, 3, [5, 1, 72, 5, 2223, 2225, 12, 1003], 0) :: (58, .aload_n 0, 1, [], 0) :: (59, .iconst 2, 1, [], 0) :: (60, .invokevirtual 91, 3, [5, 1, 73, 5, 2227, 2229, 13, 1003], 0) :: (63, .istore 5, 2, [], 0) :: (65, .iconst 0, 1, [], 0) :: (66, .istore 6, 2, [], 0) :: c79_68
def c79_37 : List JE := (37, .aload_n 0, 1, [], 0) :: (38, .invokevirtual 71, 3, [5, 0, 70, 5, 2211, 2213, 9, 1003], 0) :: (41, .iconst (-1), 1, [], 0) :: (42, .ireturn, 1, [], 0) :: c79_43
def c79_0 : List JE := (0, .aload_n 0, 1, [], 0) :: (1, .dup, 1, [], 0) :: (2, .getfield 18, 3, [5, 2, 1070, 0], 0) :: (5, .iconst 1, 1, [], 0) :: (6, .iadd, 1, [], 0) :: (7, .putfield 18, 3, [5, 2, 1070, 0], 0) :: (10, .aload_n 0, 1, [], 0) :: (11, .invokevirtual 59, 3, [5, 0, 68, 5, 2203, 2205, 7, 1003], 0) :: (14, .bipush 97, 2, [], 0) :: (16, .isub, 1, [], 0) :: (17, .istore 4, 2, [], 0) :: (19, .aload_n 1, 1, [], 0) :: (20, .iload 4, 2, [], 0) :: (22, .invokevirtual 105, 3, [5, 1, 140, 10, 3013, 2062, 2063, 1002], 0) :: (25, .ifCond .eq 12, 3, [37], 0) :: (28, .iload_n 3, 1, [], 0) :: (29, .iload 4, 2, [], 0) :: (31, .ishr, 1, [], 0) :: (32, .iconst 1, 1, [], 0) :: (33, .iand, 1, [], 0) :: (34, .ifCond .eq 9, 3, [43], 0) :: c79_37
/-! 80 SueOrSettle$Reader.lead(IIII)V -/
def c80_22 : List JE := (22, .aload_n 0, 1, [], 0) :: (23, .getfield 44, 3, [5, 10, 1078, 0], 0) :: (26, .iconst 4, 1, [], 0) :: (27, .iload_n 1, 1, [], 0) :: (28, .imul, 1, [], 0) :: (29, .iload_n 2, 1, [], 0) :: (30, .iadd, 1, [], 0) :: (31, .iload 4, 2, [], 0) :: (33, .iastore, 1, [], 0) :: (34, .aload_n 0, 1, [], 0) :: (35, .getfield 47, 3, [5, 11, 1079, 0], 0) :: (38, .iconst 4, 1, [], 0) :: (39, .iload_n 1, 1, [], 0) :: (40, .imul, 1, [], 0) :: (41, .iload_n 2, 1, [], 0) :: (42, .iadd, 1, [], 0) :: (43, .iload_n 3, 1, [], 0) :: (44, .iastore, 1, [], 0) :: (45, .aload_n 0, 1, [], 0) :: (46, .getfield 41, 3, [5, 9, 1077, 0], 0) :: (49, .iload_n 1, 1, [], 0) :: (50, .iload_n 2, 1, [], 0) :: (51, .iconst 1, 1, [], 0) :: (52, .iadd, 1, [], 0) :: (53, .iastore, 1, [], 0) :: (54, .aload_n 0, 1, [], 0) :: (55, .getfield 50, 3, [5, 12, 1080, 0], 0) :: (58, .iload_n 1, 1, [], 0) :: (59, .dup2, 1, [], 0) :: (60, .iaload, 1, [], 0) :: (61, .aload_n 0, 1, [], 0) :: (62, .getfield 50, 3, [5, 12, 1080, 0], 0) :: (65, .iload 4, 2, [], 0) :: (67, .iaload, 1, [], 0) :: (68, .ior, 1, [], 0) :: (69, .iastore, 1, [], 0) :: (70, .aload_n 0, 1, [], 0) :: (71, .getfield 53, 3, [5, 13, 1081, 0], 0) :: (74, .iload_n 1, 1, [], 0) :: (75, .aload_n 0, 1, [], 0) :: (76, .getfield 53, 3, [5, 13, 1081, 0], 0) :: (79, .iload_n 1, 1, [], 0) :: (80, .iaload, 1, [], 0) :: (81, .iconst 1, 1, [], 0) :: (82, .aload_n 0, 1, [], 0) :: (83, .getfield 53, 3, [5, 13, 1081, 0], 0) :: (86, .iload 4, 2, [], 0) :: (88, .iaload, 1, [], 0) :: (89, .iadd, 1, [], 0) :: (90, .invokestatic 114, 3, [0, 2, 379, 3003, 3004, 1010], 0) :: (93, .iastore, 1, [], 0) :: (94, .aload_n 0, 1, [], 0) :: (95, .getfield 56, 3, [5, 14, 1082, 0], 0) :: (98, .iload_n 1, 1, [], 0) :: (99, .sipush 1000, 3, [], 0) :: (102, .aload_n 0, 1, [], 0) :: (103, .getfield 56, 3, [5, 14, 1082, 0], 0) :: (106, .iload_n 1, 1, [], 0) :: (107, .iaload, 1, [], 0) :: (108, .aload_n 0, 1, [], 0) :: (109, .getfield 56, 3, [5, 14, 1082, 0], 0) :: (112, .iload 4, 2, [], 0) :: (114, .iaload, 1, [], 0) :: (115, .iadd, 1, [], 0) :: (116, .invokestatic 119, 3, [0, 2, 381, 3006, 3007, 1010], 0) :: (119, .iastore, 1, [], 0) :: (120, .return_, 1, [], 0) :: []
def c80_21 : List JE := (21, .return_, 1, [], 0) :: c80_22
def c80_0 : List JE := (0, .aload_n 0, 1, [], 0) :: (1, .getfield 15, 3, [5, 1, 1068, 0], 0) :: (4, .ifCond .ge 17, 3, [21], 0) :: (7, .iload_n 1, 1, [], 0) :: (8, .ifCond .lt 13, 3, [21], 0) :: (11, .iload 4, 2, [], 0) :: (13, .ifCond .lt 8, 3, [21], 0) :: (16, .iload_n 2, 1, [], 0) :: (17, .iconst 4, 1, [], 0) :: (18, .if_icmp .lt 4, 3, [22], 0) :: c80_21
/-! 81 SueOrSettle$Reader.writeText(I)LSueOrSettle$Quarrel; -/
def c81_26 : List JE := (26, .invokespecial 127, 3, [1, 1, 21, 3037, 3038, 1011], 0) :: (29, .astore_n 3, 1, [], 0) :: (30, .aload_n 0, 1, [], 0) :: (31, .aload_n 3, 1, [], 0) :: (32, .iload_n 1, 1, [], 0) :: (33, .iconst (-1), 1, [], 0) :: (34, .iconst 0, 1, [], 0) :: (35, .iconst 0, 1, [], 0) :: (36, .invokevirtual 129, 3, [5, 5, 82, 5, 3088, 3090, 20, 1003], 0) :: (39, .pop, 1, [], 0) :: (40, .aload_n 3, 1, [], 0) :: (41, .areturn, 1, [], 0) :: []
def c81_25 : List JE := (25, .iload_n 2, 1, [], 0) :: c81_26
def c81_21 : List JE := (21, .iconst 1, 1, [], 0) :: (22, .goto 4, 3, [26], 0) :: c81_25
def c81_0 : List JE := (0, .aload_n 0, 1, [], 0) :: (1, .iload_n 1, 1, [], 0) :: (2, .invokevirtual 122, 3, [5, 1, 66, 5, 3034, 3027, 3028, 1003], 0) :: (5, .istore_n 2, 1, [], 0) :: (6, .new 125, 3, [4, 3035, 3036, 1011], 0) :: (9, .dup, 1, [], 0) :: (10, .iload_n 2, 1, [], 0) :: (11, .iconst 1, 1, [], 0) :: (12, .if_icmp .lt 9, 3, [21], 0) :: (15, .iload_n 2, 1, [], 0) :: (16, .bipush 100, 2, [], 0) :: (18, .if_icmp .le 7, 3, [25], 0) :: c81_21
/-! 82 SueOrSettle$Reader.writeOut(LSueOrSettle$Quarrel;IIII)I -/
def c82_126 : List JE := (126, .iload 6, 2, [], 0) :: (128, .ireturn, 1, [], 0) :: []
def c82_73 : List JE := (73, .istore 8, 2, [], 0) :: (75, .aload_n 0, 1, [], 0) :: (76, .aload_n 1, 1, [], 0) :: (77, .aload_n 0, 1, [], 0) :: (78, .getfield 44, 3, [5, 10, 1078, 0], 0) :: (81, .iconst 4, 1, [], 0) :: (82, .iload_n 2, 1, [], 0) :: (83, .imul, 1, [], 0) :: (84, .iload 7, 2, [], 0) :: (86, .iadd, 1, [], 0) :: (87, .iaload, 1, [], 0) :: (88, .iload 6, 2, [], 0) :: (90, .iload 8, 2, [], 0) :: (92, .iload 5, 2, [], 0) :: (94, .iconst 1, 1, [], 0) :: (95, .iadd, 1, [], 0) :: (96, .invokevirtual 129, 3, [5, 5, 82, 5, 3088, 3090, 20, 1003], 0) :: (99, .istore 9, 2, [], 0) :: (101, .aload_n 1, 1, [], 0) :: (102, .iload 6, 2, [], 0) :: (104, .aload_n 0, 1, [], 0) :: (105, .getfield 47, 3, [5, 11, 1079, 0], 0) :: (108, .iconst 4, 1, [], 0) :: (109, .iload_n 2, 1, [], 0) :: (110, .imul, 1, [], 0) :: (111, .iload 7, 2, [], 0) :: (113, .iadd, 1, [], 0) :: (114, .iaload, 1, [], 0) :: (115, .iload 9, 2, [], 0) :: (117, .invokevirtual 137, 3, [5, 3, 23, 4, 3096, 3097, 3098, 1011], 0) :: (120, .iinc 7 1, 3, [], 0) :: (123, .goto (-99), 3, [24], 0) :: c82_126
def c82_71 : List JE := (71, .iload 4, 2, [], 0) :: c82_73
def c82_24 : List JE := (24, .iload 7, 2, [], 0) :: (26, .aload_n 0, 1, [], 0) :: (27, .getfield 41, 3, [5, 9, 1077, 0], 0) :: (30, .iload_n 2, 1, [], 0) :: (31, .iaload, 1, [], 0) :: (32, .if_icmp .ge 94, 3, [126], 0) :: (35, .iload 5, 2, [], 0) :: (37, .bipush 12, 2, [], 0) :: (39, .if_icmp .gt 87, 3, [126], 0) :: (42, .aload_n 0, 1, [], 0) :: (43, .getfield 35, 3, [5, 7, 1075, 0], 0) :: (46, .iload_n 2, 1, [], 0) :: (47, .iaload, 1, [], 0) :: (48, .iconst 2, 1, [], 0) :: (49, .if_icmp .ne 22, 3, [71], 0) :: (52, .iload 4, 2, [], 0) :: (54, .iload 7, 2, [], 0) :: (56, .iconst 1, 1, [], 0) :: (57, .iadd, 1, [], 0) :: (58, .iconst 2, 1, [], 0) :: (59, .aload_n 0, 1, [], 0) :: (60, .getfield 38, 3, [5, 8, 1076, 0], 0) :: (63, .iload_n 2, 1, [], 0) :: (64, .iaload, 1, [], 0) :: (65, .imul, 1, [], 0) :: (66, .ishl, 1, [], 0) :: (67, .ior, 1, [], 0) :: (68, .goto 5, 3, [73], 0) :: c82_71
def c82_0 : List JE := (0, .aload_n 1, 1, [], 0) :: (1, .aload_n 0, 1, [], 0) :: (2, .getfield 35, 3, [5, 7, 1075, 0], 0) :: (5, .iload_n 2, 1, [], 0) :: (6, .iaload, 1, [], 0) :: (7, .aload_n 0, 1, [], 0) :: (8, .getfield 38, 3, [5, 8, 1076, 0], 0) :: (11, .iload_n 2, 1, [], 0) :: (12, .iaload, 1, [], 0) :: (13, .iload_n 3, 1, [], 0) :: (14, .iload 4, 2, [], 0) :: (16, .invokevirtual 133, 3, [5, 4, 22, 4, 3092, 3093, 3094, 1011], 0) :: (19, .istore 6, 2, [], 0) :: (21, .iconst 0, 1, [], 0) :: (22, .istore 7, 2, [], 0) :: c82_24
/-! 83 SueOrSettle$Regret.<init>(LSueOrSettle$Sense;II)V -/
def c83_0 : List JE := (0, .aload_n 0, 1, [], 0) :: (1, .aload_n 1, 1, [], 0) :: (2, .iload_n 2, 1, [], 0) :: (3, .iload_n 3, 1, [], 0) :: (4, .invokespecial 1, 3, [1, 3, 9, 3217, 3195, 1012], 0) :: (7, .return_, 1, [], 0) :: []
/-! 84 SueOrSettle$Regret.kind()I -/
def c84_0 : List JE := (0, .iconst 3, 1, [], 0) :: (1, .ireturn, 1, [], 0) :: []
/-! 85 SueOrSettle$Regret.regrets()Z -/
def c85_0 : List JE := (0, .iconst 1, 1, [], 0) :: (1, .ireturn, 1, [1], 0) :: []
/-! 86 SueOrSettle$Regret.feels(I)I -/
def c86_0 : List JE := (0, .aload_n 0, 1, [], 0) :: (1, .getfield 7, 3, [0, 0, 1156, 1157], 0) :: (4, .bipush 40, 2, [], 0) :: (6, .invokevirtual 13, 3, [5, 1, 94, 7, 6082, 6056, 6057, 1004], 0) :: (9, .aload_n 0, 1, [], 0) :: (10, .iload_n 1, 1, [], 0) :: (11, .invokespecial 19, 3, [4, 1, 12], 0) :: (14, .aload_n 0, 1, [], 0) :: (15, .iconst 2, 1, [], 0) :: (16, .invokevirtual 23, 3, [9, 1], 0) :: (19, .iadd, 1, [], 0) :: (20, .ireturn, 1, [], 0) :: []
/-! 87 SueOrSettle$Regret.tells(I)I -/
def c87_0 : List JE := (0, .aload_n 0, 1, [], 0) :: (1, .getfield 7, 3, [0, 0, 1156, 1157], 0) :: (4, .bipush 41, 2, [], 0) :: (6, .invokevirtual 13, 3, [5, 1, 94, 7, 6082, 6056, 6057, 1004], 0) :: (9, .aload_n 0, 1, [], 0) :: (10, .iload_n 1, 1, [], 0) :: (11, .iconst 1, 1, [], 0) :: (12, .iadd, 1, [], 0) :: (13, .invokespecial 26, 3, [4, 1, 9999], 0) :: (16, .ireturn, 1, [], 0) :: []
/-! 88 SueOrSettle$Sense.<init>()V -/
def c88_0 : List JE := (0, .aload_n 0, 1, [], 0) :: (1, .invokespecial 1, 3, [6, 1122, 1023, 1024], 0) :: (4, .aload_n 0, 1, [], 0) :: (5, .bipush 6, 2, [], 0) :: (7, .newarray .int, 2, [], 0) :: (9, .putfield 9, 3, [7, 0, 1123, 0], 0) :: (12, .aload_n 0, 1, [], 0) :: (13, .bipush 6, 2, [], 0) :: (15, .newarray .int, 2, [], 0) :: (17, .putfield 13, 3, [7, 1, 1124, 0], 0) :: (20, .aload_n 0, 1, [], 0) :: (21, .bipush 24, 2, [], 0) :: (23, .newarray .int, 2, [], 0) :: (25, .putfield 16, 3, [7, 2, 1125, 0], 0) :: (28, .aload_n 0, 1, [], 0) :: (29, .iconst 0, 1, [], 0) :: (30, .putfield 19, 3, [7, 3, 1126, 0], 0) :: (33, .aload_n 0, 1, [], 0) :: (34, .iconst 0, 1, [], 0) :: (35, .putfield 23, 3, [7, 4, 1127, 0], 0) :: (38, .aload_n 0, 1, [], 0) :: (39, .iconst 0, 1, [], 0) :: (40, .putfield 26, 3, [7, 5, 1128, 0], 0) :: (43, .return_, 1, [], 0) :: []
/-! 89 SueOrSettle$Sense.hasRoom()Z -/
def c89_14 : List JE := (14, .ireturn, 1, [1], 0) :: []
def c89_13 : List JE := (13, .iconst 0, 1, [], 0) :: c89_14
def c89_0 : List JE := (0, .aload_n 0, 1, [], 0) :: (1, .getfield 19, 3, [7, 3, 1126, 0], 0) :: (4, .bipush 6, 2, [], 0) :: (6, .if_icmp .ge 7, 3, [13], 0) :: (9, .iconst 1, 1, [], 0) :: (10, .goto 4, 3, [14], 0) :: c89_13
/-! 90 SueOrSettle$Sense.addStep(II)I -/
def c90_111 : List JE := (111, .aload_n 0, 1, [], 0) :: (112, .getfield 13, 3, [7, 1, 1124, 0], 0) :: (115, .iload_n 3, 1, [], 0) :: (116, .iload_n 2, 1, [], 0) :: (117, .iastore, 1, [], 0) :: (118, .aload_n 0, 1, [], 0) :: (119, .dup, 1, [], 0) :: (120, .getfield 19, 3, [7, 3, 1126, 0], 0) :: (123, .iconst 1, 1, [], 0) :: (124, .iadd, 1, [], 0) :: (125, .putfield 19, 3, [7, 3, 1126, 0], 0) :: (128, .aload_n 0, 1, [], 0) :: (129, .getfield 19, 3, [7, 3, 1126, 0], 0) :: (132, .ireturn, 1, [], 0) :: []
def c90_94 : List JE := (94, .aload_n 0, 1, [], 0) :: (95, .getfield 9, 3, [7, 0, 1123, 0], 0) :: (98, .iload_n 3, 1, [], 0) :: (99, .iload_n 1, 1, [], 0) :: (100, .iastore, 1, [], 0) :: (101, .aload_n 0, 1, [], 0) :: (102, .dup, 1, [], 0) :: (103, .getfield 23, 3, [7, 4, 1127, 0], 0) :: (106, .iconst 1, 1, [], 0) :: (107, .iadd, 1, [], 0) :: (108, .putfield 23, 3, [7, 4, 1127, 0], 0) :: c90_111
def c90_50 : List JE := (50, .iload 4, 2, [], 0) :: (52, .iload_n 3, 1, [], 0) :: (53, .if_icmp .le 41, 3, [94], 0) :: (56, .aload_n 0, 1, [], 0) :: (57, .getfield 9, 3, [7, 0, 1123, 0], 0) :: (60, .iload 4, 2, [], 0) :: (62, .aload_n 0, 1, [], 0) :: (63, .getfield 9, 3, [7, 0, 1123, 0], 0) :: (66, .iload 4, 2, [], 0) :: (68, .iconst 1, 1, [], 0) :: (69, .isub, 1, [], 0) :: (70, .iaload, 1, [], 0) :: (71, .iastore, 1, [], 0) :: (72, .aload_n 0, 1, [], 0) :: (73, .getfield 13, 3, [7, 1, 1124, 0], 0) :: (76, .iload 4, 2, [], 0) :: (78, .aload_n 0, 1, [], 0) :: (79, .getfield 13, 3, [7, 1, 1124, 0], 0) :: (82, .iload 4, 2, [], 0) :: (84, .iconst 1, 1, [], 0) :: (85, .isub, 1, [], 0) :: (86, .iaload, 1, [], 0) :: (87, .iastore, 1, [], 0) :: (88, .iinc 4 (-1), 3, [], 0) :: (91, .goto (-41), 3, [50], 0) :: c90_94
def c90_44 : List JE := (44, .aload_n 0, 1, [], 0) :: (45, .getfield 23, 3, [7, 4, 1127, 0], 0) :: (48, .istore 4, 2, [], 0) :: c90_50
def c90_26 : List JE := (26, .iload_n 3, 1, [], 0) :: (27, .aload_n 0, 1, [], 0) :: (28, .getfield 23, 3, [7, 4, 1127, 0], 0) :: (31, .if_icmp .eq 13, 3, [44], 0) :: (34, .aload_n 0, 1, [], 0) :: (35, .getfield 9, 3, [7, 0, 1123, 0], 0) :: (38, .iload_n 3, 1, [], 0) :: (39, .iaload, 1, [], 0) :: (40, .iload_n 1, 1, [], 0) :: (41, .if_icmp .eq 70, 3, [111], 0) :: c90_44
def c90_2 : List JE := (2, .iload_n 3, 1, [], 0) :: (3, .aload_n 0, 1, [], 0) :: (4, .getfield 23, 3, [7, 4, 1127, 0], 0) :: (7, .if_icmp .ge 19, 3, [26], 0) :: (10, .aload_n 0, 1, [], 0) :: (11, .getfield 9, 3, [7, 0, 1123, 0], 0) :: (14, .iload_n 3, 1, [], 0) :: (15, .iaload, 1, [], 0) :: (16, .iload_n 1, 1, [], 0) :: (17, .if_icmp .ge 9, 3, [26], 0) :: (20, .iinc 3 1, 3, [], 0) :: (23, .goto (-21), 3, [2], 0) :: c90_26
def c90_0 : List JE := (0, .iconst 0, 1, [], 0) :: (1, .istore_n 3, 1, [], 0) :: c90_2
/-! 91 SueOrSettle$Sense.felt(I)I -/
def c91_22 : List JE := (22, .ireturn, 1, [], 0) :: []
def c91_13 : List JE := (13, .aload_n 0, 1, [], 0) :: (14, .iload_n 1, 1, [], 0) :: (15, .iconst 1, 1, [], 0) :: (16, .iadd, 1, [], 0) :: (17, .iconst 0, 1, [], 0) :: (18, .invokevirtual 29, 3, [5, 2, 92, 7, 4033, 4035, 25, 1004], 0) :: (21, .ineg, 1, [], 0) :: c91_22
def c91_0 : List JE := (0, .iload_n 1, 1, [], 0) :: (1, .ifCond .le 12, 3, [13], 0) :: (4, .aload_n 0, 1, [], 0) :: (5, .iconst 1, 1, [], 0) :: (6, .iload_n 1, 1, [], 0) :: (7, .invokevirtual 29, 3, [5, 2, 92, 7, 4033, 4035, 25, 1004], 0) :: (10, .goto 12, 3, [22], 0) :: c91_13
/-! 92 SueOrSettle$Sense.sumOver(II)I -/
def c92_84 : List JE := (84, .iload_n 3, 1, [], 0) :: (85, .iload_n 2, 1, [], 0) :: (86, .iload 4, 2, [], 0) :: (88, .isub, 1, [], 0) :: (89, .iconst 1, 1, [], 0) :: (90, .iadd, 1, [], 0) :: (91, .iload 5, 2, [], 0) :: (93, .imul, 1, [], 0) :: (94, .iadd, 1, [], 0) :: (95, .ireturn, 1, [], 0) :: []
def c92_69 : List JE := (69, .aload_n 0, 1, [], 0) :: (70, .getfield 13, 3, [7, 1, 1124, 0], 0) :: (73, .iload 6, 2, [], 0) :: (75, .iaload, 1, [], 0) :: (76, .istore 5, 2, [], 0) :: (78, .iinc 6 1, 3, [], 0) :: (81, .goto (-69), 3, [12], 0) :: c92_84
def c92_12 : List JE := (12, .iload 6, 2, [], 0) :: (14, .aload_n 0, 1, [], 0) :: (15, .getfield 23, 3, [7, 4, 1127, 0], 0) :: (18, .if_icmp .ge 66, 3, [84], 0) :: (21, .aload_n 0, 1, [], 0) :: (22, .getfield 9, 3, [7, 0, 1123, 0], 0) :: (25, .iload 6, 2, [], 0) :: (27, .iaload, 1, [], 0) :: (28, .iload_n 2, 1, [], 0) :: (29, .if_icmp .gt 55, 3, [84], 0) :: (32, .aload_n 0, 1, [], 0) :: (33, .getfield 9, 3, [7, 0, 1123, 0], 0) :: (36, .iload 6, 2, [], 0) :: (38, .iaload, 1, [], 0) :: (39, .iload 4, 2, [], 0) :: (41, .if_icmp .le 28, 3, [69], 0) :: (44, .iload_n 3, 1, [], 0) :: (45, .aload_n 0, 1, [], 0) :: (46, .getfield 9, 3, [7, 0, 1123, 0], 0) :: (49, .iload 6, 2, [], 0) :: (51, .iaload, 1, [], 0) :: (52, .iload 4, 2, [], 0) :: (54, .isub, 1, [], 0) :: (55, .iload 5, 2, [], 0) :: (57, .imul, 1, [], 0) :: (58, .iadd, 1, [], 0) :: (59, .istore_n 3, 1, [], 0) :: (60, .aload_n 0, 1, [], 0) :: (61, .getfield 9, 3, [7, 0, 1123, 0], 0) :: (64, .iload 6, 2, [], 0) :: (66, .iaload, 1, [], 0) :: (67, .istore 4, 2, [], 0) :: c92_69
def c92_0 : List JE := (0, .iconst 0, 1, [], 0) :: (1, .istore_n 3, 1, [], 0) :: (2, .iload_n 1, 1, [], 0) :: (3, .istore 4, 2, [], 0) :: (5, .bipush 100, 2, [], 0) :: (7, .istore 5, 2, [], 0) :: (9, .iconst 0, 1, [], 0) :: (10, .istore 6, 2, [], 0) :: c92_12
/-! 93 SueOrSettle$Sense.forgetTrace()V -/
def c93_0 : List JE := (0, .aload_n 0, 1, [], 0) :: (1, .iconst 0, 1, [], 0) :: (2, .putfield 26, 3, [7, 5, 1128, 0], 0) :: (5, .return_, 1, [], 0) :: []
/-! 94 SueOrSettle$Sense.begins(I)V -/
def c94_19 : List JE := (19, .aload_n 0, 1, [], 0) :: (20, .dup, 1, [], 0) :: (21, .getfield 26, 3, [7, 5, 1128, 0], 0) :: (24, .iconst 1, 1, [], 0) :: (25, .iadd, 1, [], 0) :: (26, .putfield 26, 3, [7, 5, 1128, 0], 0) :: (29, .return_, 1, [], 0) :: []
def c94_0 : List JE := (0, .aload_n 0, 1, [], 0) :: (1, .getfield 26, 3, [7, 5, 1128, 0], 0) :: (4, .bipush 24, 2, [], 0) :: (6, .if_icmp .ge 13, 3, [19], 0) :: (9, .aload_n 0, 1, [], 0) :: (10, .getfield 16, 3, [7, 2, 1125, 0], 0) :: (13, .aload_n 0, 1, [], 0) :: (14, .getfield 26, 3, [7, 5, 1128, 0], 0) :: (17, .iload_n 1, 1, [], 0) :: (18, .iastore, 1, [], 0) :: c94_19
/-! 95 SueOrSettle$Sense.hasTraced(I)Z -/
def c95_23 : List JE := (23, .ireturn, 1, [1], 0) :: []
def c95_22 : List JE := (22, .iconst 0, 1, [], 0) :: c95_23
def c95_0 : List JE := (0, .iload_n 1, 1, [], 0) :: (1, .ifCond .lt 21, 3, [22], 0) :: (4, .iload_n 1, 1, [], 0) :: (5, .aload_n 0, 1, [], 0) :: (6, .getfield 26, 3, [7, 5, 1128, 0], 0) :: (9, .if_icmp .ge 13, 3, [22], 0) :: (12, .iload_n 1, 1, [], 0) :: (13, .bipush 24, 2, [], 0) :: (15, .if_icmp .ge 7, 3, [22], 0) :: (18, .iconst 1, 1, [], 0) :: (19, .goto 4, 3, [23], 0) :: c95_22
/-! 96 SueOrSettle$Sense.traced(I)I -/
def c96_0 : List JE := (0, .aload_n 0, 1, [], 0) :: (1, .getfield 16, 3, [7, 2, 1125, 0], 0) :: (4, .iload_n 1, 1, [], 0) :: (5, .iaload, 1, [], 0) :: (6, .ireturn, 1, [], 0) :: []
/-! 97 SueOrSettle$Shy.<init>(LSueOrSettle$Sense;II)V -/
def c97_0 : List JE := (0, .aload_n 0, 1, [], 0) :: (1, .aload_n 1, 1, [], 0) :: (2, .iload_n 2, 1, [], 0) :: (3, .iload_n 3, 1, [], 0) :: (4, .invokespecial 1, 3, [1, 3, 17, 3237, 3225, 1015], 0) :: (7, .return_, 1, [], 0) :: []
/-! 98 SueOrSettle$Shy.kind()I -/
def c98_0 : List JE := (0, .iconst 5, 1, [], 0) :: (1, .ireturn, 1, [], 0) :: []
/-! 99 SueOrSettle$Shy.measure(I)I -/
def c99_17 : List JE := (17, .ireturn, 1, [], 0) :: []
def c99_11 : List JE := (11, .aload_n 0, 1, [], 0) :: (12, .getfield 7, 3, [0, 2, 1164, 1165], 0) :: (15, .iload_n 1, 1, [], 0) :: (16, .imul, 1, [], 0) :: c99_17
def c99_0 : List JE := (0, .iload_n 1, 1, [], 0) :: (1, .ifCond .ge 10, 3, [11], 0) :: (4, .bipush 100, 2, [], 0) :: (6, .iload_n 1, 1, [], 0) :: (7, .imul, 1, [], 0) :: (8, .goto 9, 3, [17], 0) :: c99_11
/-! 100 SueOrSettle$Shy.pays(I)I -/
def c100_0 : List JE := (0, .aload_n 0, 1, [], 0) :: (1, .getfield 13, 3, [0, 0, 1154, 1155], 0) :: (4, .bipush 60, 2, [], 0) :: (6, .invokevirtual 17, 3, [5, 1, 94, 7, 6064, 6056, 6057, 1004], 0) :: (9, .aload_n 0, 1, [], 0) :: (10, .iload_n 1, 1, [], 0) :: (11, .invokespecial 23, 3, [4, 1, 20], 0) :: (14, .ineg, 1, [], 0) :: (15, .ireturn, 1, [], 0) :: []
/-! 101 SueOrSettle$Shy.fears(I)I -/
def c101_0 : List JE := (0, .aload_n 0, 1, [], 0) :: (1, .getfield 13, 3, [0, 0, 1154, 1155], 0) :: (4, .bipush 61, 2, [], 0) :: (6, .invokevirtual 17, 3, [5, 1, 94, 7, 6064, 6056, 6057, 1004], 0) :: (9, .aload_n 0, 1, [], 0) :: (10, .iload_n 1, 1, [], 0) :: (11, .invokespecial 27, 3, [4, 1, 9999], 0) :: (14, .aload_n 0, 1, [], 0) :: (15, .iconst 1, 1, [], 0) :: (16, .invokevirtual 30, 3, [9, 1], 0) :: (19, .iadd, 1, [], 0) :: (20, .ireturn, 1, [], 0) :: []
/-! 102 SueOrSettle$Sides.<init>()V -/
def c102_0 : List JE := (0, .aload_n 0, 1, [], 0) :: (1, .invokespecial 3, 3, [6, 1179, 1023, 1024], 0) :: (4, .aload_n 0, 1, [], 0) :: (5, .iconst 0, 1, [], 0) :: (6, .putfield 9, 3, [9, 0, 1180, 0], 0) :: (9, .aload_n 0, 1, [], 0) :: (10, .iconst 0, 1, [], 0) :: (11, .putfield 15, 3, [9, 1, 1181, 0], 0) :: (14, .aload_n 0, 1, [], 0) :: (15, .bipush 32, 2, [], 0) :: (17, .newarray .int, 2, [], 0) :: (19, .putfield 18, 3, [9, 2, 1182, 0], 0) :: (22, .aload_n 0, 1, [], 0) :: (23, .iconst 0, 1, [], 0) :: (24, .putfield 22, 3, [9, 3, 1183, 0], 0) :: (27, .aload_n 0, 1, [], 0) :: (28, .iconst 3, 1, [], 0) :: (29, .newarray .int, 2, [], 0) :: (31, .putfield 25, 3, [9, 4, 1184, 0], 0) :: (34, .aload_n 0, 1, [], 0) :: (35, .iconst 3, 1, [], 0) :: (36, .newarray .int, 2, [], 0) :: (38, .putfield 28, 3, [9, 5, 1185, 0], 0) :: (41, .aload_n 0, 1, [], 0) :: (42, .iconst 3, 1, [], 0) :: (43, .newarray .int, 2, [], 0) :: (45, .putfield 31, 3, [9, 6, 1186, 0], 0) :: (48, .aload_n 0, 1, [], 0) :: (49, .iconst 0, 1, [], 0) :: (50, .putfield 34, 3, [9, 7, 1187, 0], 0) :: (53, .aload_n 0, 1, [], 0) :: (54, .iconst 4, 1, [], 0) :: (55, .newarray .int, 2, [], 0) :: (57, .putfield 37, 3, [9, 8, 1188, 0], 0) :: (60, .aload_n 0, 1, [], 0) :: (61, .iconst 0, 1, [], 0) :: (62, .putfield 40, 3, [9, 9, 1189, 0], 0) :: (65, .aload_n 0, 1, [], 0) :: (66, .iconst 4, 1, [], 0) :: (67, .newarray .int, 2, [], 0) :: (69, .putfield 43, 3, [9, 10, 1191, 0], 0) :: (72, .aload_n 0, 1, [], 0) :: (73, .iconst 4, 1, [], 0) :: (74, .newarray .int, 2, [], 0) :: (76, .putfield 46, 3, [9, 11, 1192, 0], 0) :: (79, .aload_n 0, 1, [], 0) :: (80, .bipush 20, 2, [], 0) :: (82, .newarray .int, 2, [], 0) :: (84, .putfield 49, 3, [9, 12, 1193, 0], 0) :: (87, .aload_n 0, 1, [], 0) :: (88, .bipush 20, 2, [], 0) :: (90, .newarray .int, 2, [], 0) :: (92, .putfield 52, 3, [9, 13, 1194, 0], 0) :: (95, .aload_n 0, 1, [], 0) :: (96, .bipush 20, 2, [], 0) :: (98, .newarray .int, 2, [], 0) :: (100, .putfield 55, 3, [9, 14, 1195, 0], 0) :: (103, .return_, 1, [], 0) :: []
/-! 103 SueOrSettle$Sides.layTable(II)V -/
def c103_0 : List JE := (0, .aload_n 0, 1, [], 0) :: (1, .iload_n 1, 1, [], 0) :: (2, .putfield 9, 3, [9, 0, 1180, 0], 0) :: (5, .aload_n 0, 1, [], 0) :: (6, .iload_n 2, 1, [], 0) :: (7, .putfield 15, 3, [9, 1, 1181, 0], 0) :: (10, .aload_n 0, 1, [], 0) :: (11, .getfield 18, 3, [9, 2, 1182, 0], 0) :: (14, .iconst 0, 1, [], 0) :: (15, .invokestatic 58, 3, [0, 2, 383, 5052, 1228, 1007], 0) :: (18, .return_, 1, [], 0) :: []
/-! 104 SueOrSettle$Sides.hasTable()Z -/
def c104_12 : List JE := (12, .ireturn, 1, [1], 0) :: []
def c104_11 : List JE := (11, .iconst 0, 1, [], 0) :: c104_12
def c104_0 : List JE := (0, .aload_n 0, 1, [], 0) :: (1, .getfield 9, 3, [9, 0, 1180, 0], 0) :: (4, .ifCond .le 7, 3, [11], 0) :: (7, .iconst 1, 1, [], 0) :: (8, .goto 4, 3, [12], 0) :: c104_11
/-! 105 SueOrSettle$Sides.isCell(II)Z -/
def c105_29 : List JE := (29, .ireturn, 1, [1], 0) :: []
def c105_28 : List JE := (28, .iconst 0, 1, [], 0) :: c105_29
def c105_0 : List JE := (0, .iload_n 1, 1, [], 0) :: (1, .ifCond .lt 27, 3, [28], 0) :: (4, .iload_n 1, 1, [], 0) :: (5, .aload_n 0, 1, [], 0) :: (6, .getfield 9, 3, [9, 0, 1180, 0], 0) :: (9, .if_icmp .ge 19, 3, [28], 0) :: (12, .iload_n 2, 1, [], 0) :: (13, .ifCond .lt 15, 3, [28], 0) :: (16, .iload_n 2, 1, [], 0) :: (17, .aload_n 0, 1, [], 0) :: (18, .getfield 15, 3, [9, 1, 1181, 0], 0) :: (21, .if_icmp .ge 7, 3, [28], 0) :: (24, .iconst 1, 1, [], 0) :: (25, .goto 4, 3, [29], 0) :: c105_28
/-! 106 SueOrSettle$Sides.gets(III)I -/
def c106_0 : List JE := (0, .aload_n 0, 1, [], 0) :: (1, .getfield 18, 3, [9, 2, 1182, 0], 0) :: (4, .bipush 8, 2, [], 0) :: (6, .iload_n 1, 1, [], 0) :: (7, .imul, 1, [], 0) :: (8, .iconst 2, 1, [], 0) :: (9, .iload_n 2, 1, [], 0) :: (10, .imul, 1, [], 0) :: (11, .iadd, 1, [], 0) :: (12, .iload_n 3, 1, [], 0) :: (13, .iadd, 1, [], 0) :: (14, .iaload, 1, [], 0) :: (15, .ireturn, 1, [], 0) :: []
/-! 107 SueOrSettle$Sides.setCell(IIII)I -/
def c107_0 : List JE := (0, .aload_n 0, 1, [], 0) :: (1, .iload_n 1, 1, [], 0) :: (2, .iload_n 2, 1, [], 0) :: (3, .iload_n 3, 1, [], 0) :: (4, .invokevirtual 64, 3, [5, 3, 106, 9, 5065, 5067, 42, 1006], 0) :: (7, .istore 5, 2, [], 0) :: (9, .aload_n 0, 1, [], 0) :: (10, .getfield 18, 3, [9, 2, 1182, 0], 0) :: (13, .bipush 8, 2, [], 0) :: (15, .iload_n 1, 1, [], 0) :: (16, .imul, 1, [], 0) :: (17, .iconst 2, 1, [], 0) :: (18, .iload_n 2, 1, [], 0) :: (19, .imul, 1, [], 0) :: (20, .iadd, 1, [], 0) :: (21, .iload_n 3, 1, [], 0) :: (22, .iadd, 1, [], 0) :: (23, .iload 4, 2, [], 0) :: (25, .iastore, 1, [], 0) :: (26, .iload 5, 2, [], 0) :: (28, .ireturn, 1, [], 0) :: []
/-! 108 SueOrSettle$Sides.isSure(II)Z -/
def c108_90 : List JE := (90, .iload_n 3, 1, [], 0) :: (91, .ireturn, 1, [1], 0) :: []
def c108_82 : List JE := (82, .iand, 1, [], 0) :: (83, .istore_n 3, 1, [], 0) :: (84, .iinc 4 1, 3, [], 0) :: (87, .goto (-38), 3, [49], 0) :: c108_90
def c108_81 : List JE := (81, .iconst 0, 1, [], 0) :: c108_82
def c108_49 : List JE := (49, .iload 4, 2, [], 0) :: (51, .aload_n 0, 1, [], 0) :: (52, .getfield 15, 3, [9, 1, 1181, 0], 0) :: (55, .if_icmp .ge 35, 3, [90], 0) :: (58, .iload_n 3, 1, [], 0) :: (59, .aload_n 0, 1, [], 0) :: (60, .iload_n 1, 1, [], 0) :: (61, .iload 4, 2, [], 0) :: (63, .iconst 1, 1, [], 0) :: (64, .invokevirtual 64, 3, [5, 3, 106, 9, 5065, 5067, 42, 1006], 0) :: (67, .aload_n 0, 1, [], 0) :: (68, .iload_n 1, 1, [], 0) :: (69, .iload_n 2, 1, [], 0) :: (70, .iconst 1, 1, [], 0) :: (71, .invokevirtual 64, 3, [5, 3, 106, 9, 5065, 5067, 42, 1006], 0) :: (74, .if_icmp .gt 7, 3, [81], 0) :: (77, .iconst 1, 1, [], 0) :: (78, .goto 4, 3, [82], 0) :: c108_81
def c108_46 : List JE := (46, .iconst 0, 1, [], 0) :: (47, .istore 4, 2, [], 0) :: c108_49
def c108_38 : List JE := (38, .iand, 1, [], 0) :: (39, .istore_n 3, 1, [], 0) :: (40, .iinc 4 1, 3, [], 0) :: (43, .goto (-38), 3, [5], 0) :: c108_46
def c108_37 : List JE := (37, .iconst 0, 1, [], 0) :: c108_38
def c108_5 : List JE := (5, .iload 4, 2, [], 0) :: (7, .aload_n 0, 1, [], 0) :: (8, .getfield 9, 3, [9, 0, 1180, 0], 0) :: (11, .if_icmp .ge 35, 3, [46], 0) :: (14, .iload_n 3, 1, [], 0) :: (15, .aload_n 0, 1, [], 0) :: (16, .iload 4, 2, [], 0) :: (18, .iload_n 2, 1, [], 0) :: (19, .iconst 0, 1, [], 0) :: (20, .invokevirtual 64, 3, [5, 3, 106, 9, 5065, 5067, 42, 1006], 0) :: (23, .aload_n 0, 1, [], 0) :: (24, .iload_n 1, 1, [], 0) :: (25, .iload_n 2, 1, [], 0) :: (26, .iconst 0, 1, [], 0) :: (27, .invokevirtual 64, 3, [5, 3, 106, 9, 5065, 5067, 42, 1006], 0) :: (30, .if_icmp .gt 7, 3, [37], 0) :: (33, .iconst 1, 1, [], 0) :: (34, .goto 4, 3, [38], 0) :: c108_37
def c108_0 : List JE := (0, .iconst 1, 1, [], 0) :: (1, .istore_n 3, 1, [], 0) :: (2, .iconst 0, 1, [], 0) :: (3, .istore 4, 2, [], 0) :: c108_5
/-! 109 SueOrSettle$Sides.surePair(I)I -/
def c109_72 : List JE := (72, .ireturn, 1, [], 0) :: []
def c109_71 : List JE := (71, .iconst (-1), 1, [], 0) :: c109_72
def c109_62 : List JE := (62, .iload_n 1, 1, [], 0) :: (63, .iconst (-1), 1, [], 0) :: (64, .if_icmp .ne 7, 3, [71], 0) :: (67, .iload_n 2, 1, [], 0) :: (68, .goto 4, 3, [72], 0) :: c109_71
def c109_56 : List JE := (56, .iinc 3 1, 3, [], 0) :: (59, .goto (-55), 3, [4], 0) :: c109_62
def c109_50 : List JE := (50, .iinc 4 1, 3, [], 0) :: (53, .goto (-38), 3, [15], 0) :: c109_56
def c109_47 : List JE := (47, .iinc 2 1, 3, [], 0) :: c109_50
def c109_15 : List JE := (15, .iload 4, 2, [], 0) :: (17, .aload_n 0, 1, [], 0) :: (18, .getfield 15, 3, [9, 1, 1181, 0], 0) :: (21, .if_icmp .ge 35, 3, [56], 0) :: (24, .aload_n 0, 1, [], 0) :: (25, .iload_n 3, 1, [], 0) :: (26, .iload 4, 2, [], 0) :: (28, .invokevirtual 68, 3, [5, 2, 108, 9, 5081, 5083, 43, 1006], 0) :: (31, .ifCond .eq 19, 3, [50], 0) :: (34, .iload_n 2, 1, [], 0) :: (35, .iload_n 1, 1, [], 0) :: (36, .if_icmp .ne 11, 3, [47], 0) :: (39, .bipush 10, 2, [], 0) :: (41, .iload_n 3, 1, [], 0) :: (42, .imul, 1, [], 0) :: (43, .iload 4, 2, [], 0) :: (45, .iadd, 1, [], 0) :: (46, .ireturn, 1, [], 0) :: c109_47
def c109_4 : List JE := (4, .iload_n 3, 1, [], 0) :: (5, .aload_n 0, 1, [], 0) :: (6, .getfield 9, 3, [9, 0, 1180, 0], 0) :: (9, .if_icmp .ge 53, 3, [62], 0) :: (12, .iconst 0, 1, [], 0) :: (13, .istore 4, 2, [], 0) :: c109_15
def c109_0 : List JE := (0, .iconst 0, 1, [], 0) :: (1, .istore_n 2, 1, [], 0) :: (2, .iconst 0, 1, [], 0) :: (3, .istore_n 3, 1, [], 0) :: c109_4
/-! 110 SueOrSettle$Sides.isDuel()Z -/
def c110_71 : List JE := (71, .iload_n 1, 1, [], 0) :: (72, .ireturn, 1, [1], 0) :: []
def c110_64 : List JE := (64, .istore_n 1, 1, [], 0) :: (65, .iinc 2 1, 3, [], 0) :: (68, .goto (-44), 3, [24], 0) :: c110_71
def c110_63 : List JE := (63, .iconst 0, 1, [], 0) :: c110_64
def c110_24 : List JE := (24, .iload_n 2, 1, [], 0) :: (25, .iconst 4, 1, [], 0) :: (26, .if_icmp .ge 45, 3, [71], 0) :: (29, .iload_n 1, 1, [], 0) :: (30, .ifCond .eq 41, 3, [71], 0) :: (33, .aload_n 0, 1, [], 0) :: (34, .iload_n 2, 1, [], 0) :: (35, .iconst 2, 1, [], 0) :: (36, .idiv, 1, [], 0) :: (37, .iload_n 2, 1, [], 0) :: (38, .iconst 2, 1, [], 0) :: (39, .irem, 1, [], 0) :: (40, .iconst 0, 1, [], 0) :: (41, .invokevirtual 64, 3, [5, 3, 106, 9, 5065, 5067, 42, 1006], 0) :: (44, .aload_n 0, 1, [], 0) :: (45, .iload_n 2, 1, [], 0) :: (46, .iconst 2, 1, [], 0) :: (47, .idiv, 1, [], 0) :: (48, .iload_n 2, 1, [], 0) :: (49, .iconst 2, 1, [], 0) :: (50, .irem, 1, [], 0) :: (51, .iconst 1, 1, [], 0) :: (52, .invokevirtual 64, 3, [5, 3, 106, 9, 5065, 5067, 42, 1006], 0) :: (55, .ineg, 1, [], 0) :: (56, .if_icmp .ne 7, 3, [63], 0) :: (59, .iconst 1, 1, [], 0) :: (60, .goto 4, 3, [64], 0) :: c110_63
def c110_21 : List JE := (21, .istore_n 1, 1, [], 0) :: (22, .iconst 0, 1, [], 0) :: (23, .istore_n 2, 1, [], 0) :: c110_24
def c110_20 : List JE := (20, .iconst 0, 1, [], 0) :: c110_21
def c110_0 : List JE := (0, .aload_n 0, 1, [], 0) :: (1, .getfield 9, 3, [9, 0, 1180, 0], 0) :: (4, .iconst 2, 1, [], 0) :: (5, .if_icmp .ne 15, 3, [20], 0) :: (8, .aload_n 0, 1, [], 0) :: (9, .getfield 15, 3, [9, 1, 1181, 0], 0) :: (12, .iconst 2, 1, [], 0) :: (13, .if_icmp .ne 7, 3, [20], 0) :: (16, .iconst 1, 1, [], 0) :: (17, .goto 4, 3, [21], 0) :: c110_20
/-! 111 SueOrSettle$Sides.sureOfOne()I -/
def c111_0 : List JE := (0, .aload_n 0, 1, [], 0) :: (1, .iconst 0, 1, [], 0) :: (2, .iconst 0, 1, [], 0) :: (3, .iconst 0, 1, [], 0) :: (4, .invokevirtual 64, 3, [5, 3, 106, 9, 5065, 5067, 42, 1006], 0) :: (7, .aload_n 0, 1, [], 0) :: (8, .iconst 0, 1, [], 0) :: (9, .iconst 1, 1, [], 0) :: (10, .iconst 0, 1, [], 0) :: (11, .invokevirtual 64, 3, [5, 3, 106, 9, 5065, 5067, 42, 1006], 0) :: (14, .invokestatic 72, 3, [0, 2, 381, 5102, 3007, 1010], 0) :: (17, .aload_n 0, 1, [], 0) :: (18, .iconst 1, 1, [], 0) :: (19, .iconst 0, 1, [], 0) :: (20, .iconst 0, 1, [], 0) :: (21, .invokevirtual 64, 3, [5, 3, 106, 9, 5065, 5067, 42, 1006], 0) :: (24, .aload_n 0, 1, [], 0) :: (25, .iconst 1, 1, [], 0) :: (26, .iconst 1, 1, [], 0) :: (27, .iconst 0, 1, [], 0) :: (28, .invokevirtual 64, 3, [5, 3, 106, 9, 5065, 5067, 42, 1006], 0) :: (31, .invokestatic 72, 3, [0, 2, 381, 5102, 3007, 1010], 0) :: (34, .invokestatic 78, 3, [0, 2, 379, 5101, 3004, 1010], 0) :: (37, .ireturn, 1, [], 0) :: []
/-! 112 SueOrSettle$Sides.duelMix()I -/
def c112_0 : List JE := (0, .aload_n 0, 1, [], 0) :: (1, .iconst 0, 1, [], 0) :: (2, .iconst 0, 1, [], 0) :: (3, .iconst 0, 1, [], 0) :: (4, .invokevirtual 64, 3, [5, 3, 106, 9, 5065, 5067, 42, 1006], 0) :: (7, .aload_n 0, 1, [], 0) :: (8, .iconst 1, 1, [], 0) :: (9, .iconst 1, 1, [], 0) :: (10, .iconst 0, 1, [], 0) :: (11, .invokevirtual 64, 3, [5, 3, 106, 9, 5065, 5067, 42, 1006], 0) :: (14, .iadd, 1, [], 0) :: (15, .aload_n 0, 1, [], 0) :: (16, .iconst 0, 1, [], 0) :: (17, .iconst 1, 1, [], 0) :: (18, .iconst 0, 1, [], 0) :: (19, .invokevirtual 64, 3, [5, 3, 106, 9, 5065, 5067, 42, 1006], 0) :: (22, .isub, 1, [], 0) :: (23, .aload_n 0, 1, [], 0) :: (24, .iconst 1, 1, [], 0) :: (25, .iconst 0, 1, [], 0) :: (26, .iconst 0, 1, [], 0) :: (27, .invokevirtual 64, 3, [5, 3, 106, 9, 5065, 5067, 42, 1006], 0) :: (30, .isub, 1, [], 0) :: (31, .ireturn, 1, [], 0) :: []
/-! 113 SueOrSettle$Sides.isSettled()Z -/
def c113_58 : List JE := (58, .ireturn, 1, [1], 0) :: []
def c113_57 : List JE := (57, .iconst 0, 1, [], 0) :: c113_58
def c113_53 : List JE := (53, .iconst 1, 1, [], 0) :: (54, .goto 4, 3, [58], 0) :: c113_57
def c113_0 : List JE := (0, .aload_n 0, 1, [], 0) :: (1, .iconst 0, 1, [], 0) :: (2, .iconst 0, 1, [], 0) :: (3, .iconst 0, 1, [], 0) :: (4, .invokevirtual 64, 3, [5, 3, 106, 9, 5065, 5067, 42, 1006], 0) :: (7, .aload_n 0, 1, [], 0) :: (8, .iconst 1, 1, [], 0) :: (9, .iconst 0, 1, [], 0) :: (10, .iconst 0, 1, [], 0) :: (11, .invokevirtual 64, 3, [5, 3, 106, 9, 5065, 5067, 42, 1006], 0) :: (14, .invokestatic 78, 3, [0, 2, 379, 5101, 3004, 1010], 0) :: (17, .aload_n 0, 1, [], 0) :: (18, .iconst 0, 1, [], 0) :: (19, .iconst 1, 1, [], 0) :: (20, .iconst 0, 1, [], 0) :: (21, .invokevirtual 64, 3, [5, 3, 106, 9, 5065, 5067, 42, 1006], 0) :: (24, .aload_n 0, 1, [], 0) :: (25, .iconst 1, 1, [], 0) :: (26, .iconst 1, 1, [], 0) :: (27, .iconst 0, 1, [], 0) :: (28, .invokevirtual 64, 3, [5, 3, 106, 9, 5065, 5067, 42, 1006], 0) :: (31, .invokestatic 78, 3, [0, 2, 379, 5101, 3004, 1010], 0) :: (34, .invokestatic 72, 3, [0, 2, 381, 5102, 3007, 1010], 0) :: (37, .istore_n 1, 1, [], 0) :: (38, .aload_n 0, 1, [], 0) :: (39, .invokevirtual 81, 3, [5, 0, 111, 9, 5103, 5105, 45, 1006], 0) :: (42, .iload_n 1, 1, [], 0) :: (43, .if_icmp .eq 10, 3, [53], 0) :: (46, .aload_n 0, 1, [], 0) :: (47, .invokevirtual 85, 3, [5, 0, 112, 9, 5107, 5109, 46, 1006], 0) :: (50, .ifCond .ne 7, 3, [57], 0) :: c113_53
/-! 114 SueOrSettle$Sides.duelTop()J -/
def c114_47 : List JE := (47, .lreturn, 1, [], 0) :: []
def c114_15 : List JE := (15, .aload_n 0, 1, [], 0) :: (16, .iconst 0, 1, [], 0) :: (17, .iconst 0, 1, [], 0) :: (18, .iconst 0, 1, [], 0) :: (19, .invokevirtual 64, 3, [5, 3, 106, 9, 5065, 5067, 42, 1006], 0) :: (22, .aload_n 0, 1, [], 0) :: (23, .iconst 1, 1, [], 0) :: (24, .iconst 1, 1, [], 0) :: (25, .iconst 0, 1, [], 0) :: (26, .invokevirtual 64, 3, [5, 3, 106, 9, 5065, 5067, 42, 1006], 0) :: (29, .imul, 1, [], 0) :: (30, .aload_n 0, 1, [], 0) :: (31, .iconst 0, 1, [], 0) :: (32, .iconst 1, 1, [], 0) :: (33, .iconst 0, 1, [], 0) :: (34, .invokevirtual 64, 3, [5, 3, 106, 9, 5065, 5067, 42, 1006], 0) :: (37, .aload_n 0, 1, [], 0) :: (38, .iconst 1, 1, [], 0) :: (39, .iconst 0, 1, [], 0) :: (40, .iconst 0, 1, [], 0) :: (41, .invokevirtual 64, 3, [5, 3, 106, 9, 5065, 5067, 42, 1006], 0) :: (44, .imul, 1, [], 0) :: (45, .isub, 1, [], 0) :: (46, .i2l, 1, [], 0) :: c114_47
def c114_0 : List JE := (0, .aload_n 0, 1, [], 0) :: (1, .invokevirtual 88, 3, [5, 0, 113, 9, 5097, 5099, 44, 1006], 0) :: (4, .ifCond .eq 11, 3, [15], 0) :: (7, .aload_n 0, 1, [], 0) :: (8, .invokevirtual 81, 3, [5, 0, 111, 9, 5103, 5105, 45, 1006], 0) :: (11, .i2l, 1, [], 0) :: (12, .goto 35, 3, [47], 0) :: c114_15
/-! 115 SueOrSettle$Sides.duelBottom()J -/
def c115_16 : List JE := (16, .lreturn, 1, [], 0) :: []
def c115_11 : List JE := (11, .aload_n 0, 1, [], 0) :: (12, .invokevirtual 85, 3, [5, 0, 112, 9, 5107, 5109, 46, 1006], 0) :: (15, .i2l, 1, [], 0) :: c115_16
def c115_0 : List JE := (0, .aload_n 0, 1, [], 0) :: (1, .invokevirtual 88, 3, [5, 0, 113, 9, 5097, 5099, 44, 1006], 0) :: (4, .ifCond .eq 7, 3, [11], 0) :: (7, .lconst 1, 1, [], 0) :: (8, .goto 8, 3, [16], 0) :: c115_11
/-! 116 SueOrSettle$Sides.leftUnstruck(I)I -/
def c116_96 : List JE := (96, .ireturn, 1, [], 0) :: []
def c116_95 : List JE := (95, .iload_n 3, 1, [], 0) :: c116_96
def c116_87 : List JE := (87, .iload_n 1, 1, [], 0) :: (88, .ifCond .ne 7, 3, [95], 0) :: (91, .iload_n 2, 1, [], 0) :: (92, .goto 4, 3, [96], 0) :: c116_95
def c116_81 : List JE := (81, .iinc 4 1, 3, [], 0) :: (84, .goto (-63), 3, [21], 0) :: c116_87
def c116_79 : List JE := (79, .iand, 1, [], 0) :: (80, .istore_n 3, 1, [], 0) :: c116_81
def c116_73 : List JE := (73, .iconst 1, 1, [], 0) :: (74, .iload 6, 2, [], 0) :: (76, .ishl, 1, [], 0) :: (77, .iconst (-1), 1, [], 0) :: (78, .ixor, 1, [], 0) :: c116_79
def c116_54 : List JE := (54, .aload_n 0, 1, [], 0) :: (55, .iload_n 3, 1, [], 0) :: (56, .iload_n 2, 1, [], 0) :: (57, .iconst 1, 1, [], 0) :: (58, .invokevirtual 92, 3, [5, 3, 117, 9, 5123, 5125, 47, 1006], 0) :: (61, .istore 6, 2, [], 0) :: (63, .iload_n 3, 1, [], 0) :: (64, .iload 6, 2, [], 0) :: (66, .ifCond .ge 7, 3, [73], 0) :: (69, .iconst (-1), 1, [], 0) :: (70, .goto 9, 3, [79], 0) :: c116_73
def c116_21 : List JE := (21, .iload 4, 2, [], 0) :: (23, .bipush 8, 2, [], 0) :: (25, .if_icmp .ge 62, 3, [87], 0) :: (28, .aload_n 0, 1, [], 0) :: (29, .iload_n 2, 1, [], 0) :: (30, .iload_n 3, 1, [], 0) :: (31, .iconst 0, 1, [], 0) :: (32, .invokevirtual 92, 3, [5, 3, 117, 9, 5123, 5125, 47, 1006], 0) :: (35, .istore 5, 2, [], 0) :: (37, .iload 5, 2, [], 0) :: (39, .ifCond .lt 15, 3, [54], 0) :: (42, .iload_n 2, 1, [], 0) :: (43, .iconst 1, 1, [], 0) :: (44, .iload 5, 2, [], 0) :: (46, .ishl, 1, [], 0) :: (47, .iconst (-1), 1, [], 0) :: (48, .ixor, 1, [], 0) :: (49, .iand, 1, [], 0) :: (50, .istore_n 2, 1, [], 0) :: (51, .goto 30, 3, [81], 0) :: c116_54
def c116_0 : List JE := (0, .iconst 1, 1, [], 0) :: (1, .aload_n 0, 1, [], 0) :: (2, .getfield 9, 3, [9, 0, 1180, 0], 0) :: (5, .ishl, 1, [], 0) :: (6, .iconst 1, 1, [], 0) :: (7, .isub, 1, [], 0) :: (8, .istore_n 2, 1, [], 0) :: (9, .iconst 1, 1, [], 0) :: (10, .aload_n 0, 1, [], 0) :: (11, .getfield 15, 3, [9, 1, 1181, 0], 0) :: (14, .ishl, 1, [], 0) :: (15, .iconst 1, 1, [], 0) :: (16, .isub, 1, [], 0) :: (17, .istore_n 3, 1, [], 0) :: (18, .iconst 0, 1, [], 0) :: (19, .istore 4, 2, [], 0) :: c116_21
/-! 117 SueOrSettle$Sides.lineToStrike(III)I -/
def c117_73 : List JE := (73, .iconst (-1), 1, [], 0) :: (74, .ireturn, 1, [], 0) :: []
def c117_67 : List JE := (67, .iinc 4 1, 3, [], 0) :: (70, .goto (-67), 3, [3], 0) :: c117_73
def c117_61 : List JE := (61, .iinc 5 1, 3, [], 0) :: (64, .goto (-52), 3, [12], 0) :: c117_67
def c117_12 : List JE := (12, .iload 5, 2, [], 0) :: (14, .iconst 4, 1, [], 0) :: (15, .if_icmp .ge 52, 3, [67], 0) :: (18, .iload_n 1, 1, [], 0) :: (19, .iload 4, 2, [], 0) :: (21, .ishr, 1, [], 0) :: (22, .iconst 1, 1, [], 0) :: (23, .iand, 1, [], 0) :: (24, .iconst 1, 1, [], 0) :: (25, .if_icmp .ne 42, 3, [67], 0) :: (28, .iload 5, 2, [], 0) :: (30, .iload 4, 2, [], 0) :: (32, .if_icmp .eq 29, 3, [61], 0) :: (35, .iload_n 1, 1, [], 0) :: (36, .iload 5, 2, [], 0) :: (38, .ishr, 1, [], 0) :: (39, .iconst 1, 1, [], 0) :: (40, .iand, 1, [], 0) :: (41, .iconst 1, 1, [], 0) :: (42, .if_icmp .ne 19, 3, [61], 0) :: (45, .aload_n 0, 1, [], 0) :: (46, .iload 5, 2, [], 0) :: (48, .iload 4, 2, [], 0) :: (50, .iload_n 2, 1, [], 0) :: (51, .iload_n 3, 1, [], 0) :: (52, .invokevirtual 95, 3, [5, 4, 118, 9, 5127, 5129, 48, 1006], 0) :: (55, .ifCond .eq 6, 3, [61], 0) :: (58, .iload 4, 2, [], 0) :: (60, .ireturn, 1, [], 0) :: c117_61
def c117_3 : List JE := (3, .iload 4, 2, [], 0) :: (5, .iconst 4, 1, [], 0) :: (6, .if_icmp .ge 67, 3, [73], 0) :: (9, .iconst 0, 1, [], 0) :: (10, .istore 5, 2, [], 0) :: c117_12
def c117_0 : List JE := (0, .iconst 0, 1, [], 0) :: (1, .istore 4, 2, [], 0) :: c117_3
/-! 118 SueOrSettle$Sides.beats(IIII)Z -/
def c118_86 : List JE := (86, .iconst 1, 1, [], 0) :: (87, .ireturn, 1, [1], 0) :: []
def c118_80 : List JE := (80, .iinc 5 1, 3, [], 0) :: (83, .goto (-80), 3, [3], 0) :: c118_86
def c118_69 : List JE := (69, .istore 7, 2, [], 0) :: (71, .iload 6, 2, [], 0) :: (73, .iload 7, 2, [], 0) :: (75, .if_icmp .gt 5, 3, [80], 0) :: (78, .iconst 0, 1, [], 0) :: (79, .ireturn, 1, [1], 0) :: c118_80
def c118_61 : List JE := (61, .aload_n 0, 1, [], 0) :: (62, .iload 5, 2, [], 0) :: (64, .iload_n 2, 1, [], 0) :: (65, .iconst 1, 1, [], 0) :: (66, .invokevirtual 64, 3, [5, 3, 106, 9, 5065, 5067, 42, 1006], 0) :: c118_69
def c118_43 : List JE := (43, .istore 6, 2, [], 0) :: (45, .iload 4, 2, [], 0) :: (47, .ifCond .ne 14, 3, [61], 0) :: (50, .aload_n 0, 1, [], 0) :: (51, .iload_n 2, 1, [], 0) :: (52, .iload 5, 2, [], 0) :: (54, .iconst 0, 1, [], 0) :: (55, .invokevirtual 64, 3, [5, 3, 106, 9, 5065, 5067, 42, 1006], 0) :: (58, .goto 11, 3, [69], 0) :: c118_61
def c118_35 : List JE := (35, .aload_n 0, 1, [], 0) :: (36, .iload 5, 2, [], 0) :: (38, .iload_n 1, 1, [], 0) :: (39, .iconst 1, 1, [], 0) :: (40, .invokevirtual 64, 3, [5, 3, 106, 9, 5065, 5067, 42, 1006], 0) :: c118_43
def c118_3 : List JE := (3, .iload 5, 2, [], 0) :: (5, .iconst 4, 1, [], 0) :: (6, .if_icmp .ge 80, 3, [86], 0) :: (9, .iload_n 3, 1, [], 0) :: (10, .iload 5, 2, [], 0) :: (12, .ishr, 1, [], 0) :: (13, .iconst 1, 1, [], 0) :: (14, .iand, 1, [], 0) :: (15, .iconst 1, 1, [], 0) :: (16, .if_icmp .ne 64, 3, [80], 0) :: (19, .iload 4, 2, [], 0) :: (21, .ifCond .ne 14, 3, [35], 0) :: (24, .aload_n 0, 1, [], 0) :: (25, .iload_n 1, 1, [], 0) :: (26, .iload 5, 2, [], 0) :: (28, .iconst 0, 1, [], 0) :: (29, .invokevirtual 64, 3, [5, 3, 106, 9, 5065, 5067, 42, 1006], 0) :: (32, .goto 11, 3, [43], 0) :: c118_35
def c118_0 : List JE := (0, .iconst 0, 1, [], 0) :: (1, .istore 5, 2, [], 0) :: c118_3
/-! 119 SueOrSettle$Sides.addSort(III)I -/
def c119_11 : List JE := (11, .aload_n 0, 1, [], 0) :: (12, .getfield 25, 3, [9, 4, 1184, 0], 0) :: (15, .aload_n 0, 1, [], 0) :: (16, .getfield 22, 3, [9, 3, 1183, 0], 0) :: (19, .iload_n 1, 1, [], 0) :: (20, .iastore, 1, [], 0) :: (21, .aload_n 0, 1, [], 0) :: (22, .getfield 28, 3, [9, 5, 1185, 0], 0) :: (25, .aload_n 0, 1, [], 0) :: (26, .getfield 22, 3, [9, 3, 1183, 0], 0) :: (29, .iload_n 2, 1, [], 0) :: (30, .iastore, 1, [], 0) :: (31, .aload_n 0, 1, [], 0) :: (32, .getfield 31, 3, [9, 6, 1186, 0], 0) :: (35, .aload_n 0, 1, [], 0) :: (36, .getfield 22, 3, [9, 3, 1183, 0], 0) :: (39, .iload_n 3, 1, [], 0) :: (40, .iastore, 1, [], 0) :: (41, .aload_n 0, 1, [], 0) :: (42, .dup, 1, [], 0) :: (43, .getfield 22, 3, [9, 3, 1183, 0], 0) :: (46, .iconst 1, 1, [], 0) :: (47, .iadd, 1, [], 0) :: (48, .putfield 22, 3, [9, 3, 1183, 0], 0) :: (51, .aload_n 0, 1, [], 0) :: (52, .getfield 22, 3, [9, 3, 1183, 0], 0) :: (55, .ireturn, 1, [], 0) :: []
def c119_0 : List JE := (0, .aload_n 0, 1, [], 0) :: (1, .getfield 22, 3, [9, 3, 1183, 0], 0) :: (4, .iconst 3, 1, [], 0) :: (5, .if_icmp .lt 6, 3, [11], 0) :: (8, .bipush (-3), 2, [], 0) :: (10, .ireturn, 1, [], 0) :: c119_11
/-! 120 SueOrSettle$Sides.addOffer(I)I -/
def c120_39 : List JE := (39, .aload_n 0, 1, [], 0) :: (40, .getfield 37, 3, [9, 8, 1188, 0], 0) :: (43, .aload_n 0, 1, [], 0) :: (44, .getfield 34, 3, [9, 7, 1187, 0], 0) :: (47, .iload_n 1, 1, [], 0) :: (48, .iastore, 1, [], 0) :: (49, .aload_n 0, 1, [], 0) :: (50, .dup, 1, [], 0) :: (51, .getfield 34, 3, [9, 7, 1187, 0], 0) :: (54, .iconst 1, 1, [], 0) :: (55, .iadd, 1, [], 0) :: (56, .putfield 34, 3, [9, 7, 1187, 0], 0) :: (59, .aload_n 0, 1, [], 0) :: (60, .getfield 34, 3, [9, 7, 1187, 0], 0) :: (63, .ireturn, 1, [], 0) :: []
def c120_28 : List JE := (28, .aload_n 0, 1, [], 0) :: (29, .getfield 34, 3, [9, 7, 1187, 0], 0) :: (32, .iconst 4, 1, [], 0) :: (33, .if_icmp .lt 6, 3, [39], 0) :: (36, .bipush (-3), 2, [], 0) :: (38, .ireturn, 1, [], 0) :: c120_39
def c120_22 : List JE := (22, .iinc 2 1, 3, [], 0) :: (25, .goto (-23), 3, [2], 0) :: c120_28
def c120_2 : List JE := (2, .iload_n 2, 1, [], 0) :: (3, .aload_n 0, 1, [], 0) :: (4, .getfield 34, 3, [9, 7, 1187, 0], 0) :: (7, .if_icmp .ge 21, 3, [28], 0) :: (10, .aload_n 0, 1, [], 0) :: (11, .getfield 37, 3, [9, 8, 1188, 0], 0) :: (14, .iload_n 2, 1, [], 0) :: (15, .iaload, 1, [], 0) :: (16, .iload_n 1, 1, [], 0) :: (17, .if_icmp .ne 5, 3, [22], 0) :: (20, .iconst (-1), 1, [], 0) :: (21, .ireturn, 1, [], 0) :: c120_22
def c120_0 : List JE := (0, .iconst 0, 1, [], 0) :: (1, .istore_n 2, 1, [], 0) :: c120_2
/-! 121 SueOrSettle$Sides.forgetSorts()I -/
def c121_0 : List JE := (0, .aload_n 0, 1, [], 0) :: (1, .getfield 22, 3, [9, 3, 1183, 0], 0) :: (4, .istore_n 1, 1, [], 0) :: (5, .aload_n 0, 1, [], 0) :: (6, .iconst 0, 1, [], 0) :: (7, .putfield 22, 3, [9, 3, 1183, 0], 0) :: (10, .aload_n 0, 1, [], 0) :: (11, .iconst 0, 1, [], 0) :: (12, .putfield 34, 3, [9, 7, 1187, 0], 0) :: (15, .iload_n 1, 1, [], 0) :: (16, .ireturn, 1, [], 0) :: []
/-! 122 SueOrSettle$Sides.profiles(II)I -/
def c122_100 : List JE := (100, .ireturn, 1, [], 0) :: []
def c122_98 : List JE := (98, .bipush (-2), 2, [], 0) :: c122_100
def c122_90 : List JE := (90, .iload_n 2, 1, [], 0) :: (91, .ifCond .ne 7, 3, [98], 0) :: (94, .iload_n 3, 1, [], 0) :: (95, .goto 5, 3, [100], 0) :: c122_98
def c122_84 : List JE := (84, .iinc 4 1, 3, [], 0) :: (87, .goto (-65), 3, [22], 0) :: c122_90
def c122_81 : List JE := (81, .iinc 3 1, 3, [], 0) :: c122_84
def c122_80 : List JE := (80, .ireturn, 1, [], 0) :: c122_81
def c122_78 : List JE := (78, .iload 5, 2, [], 0) :: c122_80
def c122_22 : List JE := (22, .iload 4, 2, [], 0) :: (24, .iconst 1, 1, [], 0) :: (25, .iconst 2, 1, [], 0) :: (26, .aload_n 0, 1, [], 0) :: (27, .getfield 22, 3, [9, 3, 1183, 0], 0) :: (30, .imul, 1, [], 0) :: (31, .ishl, 1, [], 0) :: (32, .if_icmp .ge 58, 3, [90], 0) :: (35, .aload_n 0, 1, [], 0) :: (36, .iload 4, 2, [], 0) :: (38, .invokevirtual 99, 3, [5, 1, 124, 9, 5155, 5157, 49, 1006], 0) :: (41, .ifCond .eq 43, 3, [84], 0) :: (44, .aload_n 0, 1, [], 0) :: (45, .iload 4, 2, [], 0) :: (47, .iload_n 1, 1, [], 0) :: (48, .invokevirtual 103, 3, [5, 2, 125, 9, 5163, 5165, 51, 1006], 0) :: (51, .istore 5, 2, [], 0) :: (53, .aload_n 0, 1, [], 0) :: (54, .iload 4, 2, [], 0) :: (56, .iload 5, 2, [], 0) :: (58, .invokevirtual 106, 3, [5, 2, 128, 9, 5171, 5173, 53, 1006], 0) :: (61, .ifCond .eq 23, 3, [84], 0) :: (64, .iload_n 2, 1, [], 0) :: (65, .ifCond .le 16, 3, [81], 0) :: (68, .iload_n 2, 1, [], 0) :: (69, .iconst 1, 1, [], 0) :: (70, .if_icmp .ne 8, 3, [78], 0) :: (73, .iload 4, 2, [], 0) :: (75, .goto 5, 3, [80], 0) :: c122_78
def c122_17 : List JE := (17, .iconst 0, 1, [], 0) :: (18, .istore_n 3, 1, [], 0) :: (19, .iconst 0, 1, [], 0) :: (20, .istore 4, 2, [], 0) :: c122_22
def c122_14 : List JE := (14, .bipush (-5), 2, [], 0) :: (16, .ireturn, 1, [], 0) :: c122_17
def c122_0 : List JE := (0, .aload_n 0, 1, [], 0) :: (1, .getfield 22, 3, [9, 3, 1183, 0], 0) :: (4, .ifCond .eq 10, 3, [14], 0) :: (7, .aload_n 0, 1, [], 0) :: (8, .getfield 34, 3, [9, 7, 1187, 0], 0) :: (11, .ifCond .ne 6, 3, [17], 0) :: c122_14
/-! 123 SueOrSettle$Sides.madeBy(II)I -/
def c123_0 : List JE := (0, .iload_n 1, 1, [], 0) :: (1, .iconst 2, 1, [], 0) :: (2, .aload_n 0, 1, [], 0) :: (3, .getfield 22, 3, [9, 3, 1183, 0], 0) :: (6, .iconst 1, 1, [], 0) :: (7, .isub, 1, [], 0) :: (8, .iload_n 2, 1, [], 0) :: (9, .isub, 1, [], 0) :: (10, .imul, 1, [], 0) :: (11, .ishr, 1, [], 0) :: (12, .iconst 3, 1, [], 0) :: (13, .iand, 1, [], 0) :: (14, .ireturn, 1, [], 0) :: []
/-! 124 SueOrSettle$Sides.isMade(I)Z -/
def c124_31 : List JE := (31, .iconst 1, 1, [], 0) :: (32, .ireturn, 1, [1], 0) :: []
def c124_25 : List JE := (25, .iinc 2 1, 3, [], 0) :: (28, .goto (-26), 3, [2], 0) :: c124_31
def c124_2 : List JE := (2, .iload_n 2, 1, [], 0) :: (3, .aload_n 0, 1, [], 0) :: (4, .getfield 22, 3, [9, 3, 1183, 0], 0) :: (7, .if_icmp .ge 24, 3, [31], 0) :: (10, .aload_n 0, 1, [], 0) :: (11, .iload_n 1, 1, [], 0) :: (12, .iload_n 2, 1, [], 0) :: (13, .invokevirtual 109, 3, [5, 2, 123, 9, 5159, 5161, 50, 1006], 0) :: (16, .aload_n 0, 1, [], 0) :: (17, .getfield 34, 3, [9, 7, 1187, 0], 0) :: (20, .if_icmp .lt 5, 3, [25], 0) :: (23, .iconst 0, 1, [], 0) :: (24, .ireturn, 1, [1], 0) :: c124_25
def c124_0 : List JE := (0, .iconst 0, 1, [], 0) :: (1, .istore_n 2, 1, [], 0) :: c124_2
/-! 125 SueOrSettle$Sides.takenOf(II)I -/
def c125_157 : List JE := (157, .iload_n 3, 1, [], 0) :: (158, .ireturn, 1, [], 0) :: []
def c125_149 : List JE := (149, .ior, 1, [], 0) :: (150, .istore_n 3, 1, [], 0) :: (151, .iinc 4 1, 3, [], 0) :: (154, .goto (-149), 3, [5], 0) :: c125_157
def c125_148 : List JE := (148, .iconst 0, 1, [], 0) :: c125_149
def c125_133 : List JE := (133, .istore 7, 2, [], 0) :: (135, .iload_n 3, 1, [], 0) :: (136, .iload 7, 2, [], 0) :: (138, .ifCond .eq 10, 3, [148], 0) :: (141, .iconst 1, 1, [], 0) :: (142, .iload 4, 2, [], 0) :: (144, .ishl, 1, [], 0) :: (145, .goto 4, 3, [149], 0) :: c125_148
def c125_132 : List JE := (132, .iconst 0, 1, [], 0) :: c125_133
def c125_111 : List JE := (111, .aload_n 0, 1, [], 0) :: (112, .getfield 37, 3, [9, 8, 1188, 0], 0) :: (115, .iload 4, 2, [], 0) :: (117, .iaload, 1, [], 0) :: (118, .iload_n 2, 1, [], 0) :: (119, .isub, 1, [], 0) :: (120, .iload 5, 2, [], 0) :: (122, .imul, 1, [], 0) :: (123, .iload 6, 2, [], 0) :: (125, .if_icmp .gt 7, 3, [132], 0) :: (128, .iconst 1, 1, [], 0) :: (129, .goto 4, 3, [133], 0) :: c125_132
def c125_107 : List JE := (107, .iconst 0, 1, [], 0) :: (108, .goto 25, 3, [133], 0) :: c125_111
def c125_82 : List JE := (82, .iload 5, 2, [], 0) :: (84, .ifCond .ne 27, 3, [111], 0) :: (87, .aload_n 0, 1, [], 0) :: (88, .getfield 37, 3, [9, 8, 1188, 0], 0) :: (91, .iload 4, 2, [], 0) :: (93, .iaload, 1, [], 0) :: (94, .aload_n 0, 1, [], 0) :: (95, .invokevirtual 112, 3, [5, 0, 126, 9, 5167, 5169, 52, 1006], 0) :: (98, .iload_n 2, 1, [], 0) :: (99, .iadd, 1, [], 0) :: (100, .if_icmp .gt 7, 3, [107], 0) :: (103, .iconst 1, 1, [], 0) :: (104, .goto 29, 3, [133], 0) :: c125_107
def c125_76 : List JE := (76, .iinc 7 1, 3, [], 0) :: (79, .goto (-56), 3, [23], 0) :: c125_82
def c125_23 : List JE := (23, .iload 7, 2, [], 0) :: (25, .aload_n 0, 1, [], 0) :: (26, .getfield 22, 3, [9, 3, 1183, 0], 0) :: (29, .if_icmp .ge 53, 3, [82], 0) :: (32, .aload_n 0, 1, [], 0) :: (33, .iload_n 1, 1, [], 0) :: (34, .iload 7, 2, [], 0) :: (36, .invokevirtual 109, 3, [5, 2, 123, 9, 5159, 5161, 50, 1006], 0) :: (39, .iload 4, 2, [], 0) :: (41, .if_icmp .ne 35, 3, [76], 0) :: (44, .iload 5, 2, [], 0) :: (46, .aload_n 0, 1, [], 0) :: (47, .getfield 25, 3, [9, 4, 1184, 0], 0) :: (50, .iload 7, 2, [], 0) :: (52, .iaload, 1, [], 0) :: (53, .iadd, 1, [], 0) :: (54, .istore 5, 2, [], 0) :: (56, .iload 6, 2, [], 0) :: (58, .aload_n 0, 1, [], 0) :: (59, .getfield 25, 3, [9, 4, 1184, 0], 0) :: (62, .iload 7, 2, [], 0) :: (64, .iaload, 1, [], 0) :: (65, .aload_n 0, 1, [], 0) :: (66, .getfield 28, 3, [9, 5, 1185, 0], 0) :: (69, .iload 7, 2, [], 0) :: (71, .iaload, 1, [], 0) :: (72, .imul, 1, [], 0) :: (73, .iadd, 1, [], 0) :: (74, .istore 6, 2, [], 0) :: c125_76
def c125_5 : List JE := (5, .iload 4, 2, [], 0) :: (7, .aload_n 0, 1, [], 0) :: (8, .getfield 34, 3, [9, 7, 1187, 0], 0) :: (11, .if_icmp .ge 146, 3, [157], 0) :: (14, .iconst 0, 1, [], 0) :: (15, .istore 5, 2, [], 0) :: (17, .iconst 0, 1, [], 0) :: (18, .istore 6, 2, [], 0) :: (20, .iconst 0, 1, [], 0) :: (21, .istore 7, 2, [], 0) :: c125_23
def c125_0 : List JE := (0, .iconst 0, 1, [], 0) :: (1, .istore_n 3, 1, [], 0) :: (2, .iconst 0, 1, [], 0) :: (3, .istore 4, 2, [], 0) :: c125_5
/-! 126 SueOrSettle$Sides.leastWin()I -/
def c126_34 : List JE := (34, .iload_n 1, 1, [], 0) :: (35, .ireturn, 1, [], 0) :: []
def c126_9 : List JE := (9, .iload_n 2, 1, [], 0) :: (10, .aload_n 0, 1, [], 0) :: (11, .getfield 22, 3, [9, 3, 1183, 0], 0) :: (14, .if_icmp .ge 20, 3, [34], 0) :: (17, .iload_n 1, 1, [], 0) :: (18, .aload_n 0, 1, [], 0) :: (19, .getfield 28, 3, [9, 5, 1185, 0], 0) :: (22, .iload_n 2, 1, [], 0) :: (23, .iaload, 1, [], 0) :: (24, .invokestatic 72, 3, [0, 2, 381, 5102, 3007, 1010], 0) :: (27, .istore_n 1, 1, [], 0) :: (28, .iinc 2 1, 3, [], 0) :: (31, .goto (-22), 3, [9], 0) :: c126_34
def c126_0 : List JE := (0, .aload_n 0, 1, [], 0) :: (1, .getfield 28, 3, [9, 5, 1185, 0], 0) :: (4, .iconst 0, 1, [], 0) :: (5, .iaload, 1, [], 0) :: (6, .istore_n 1, 1, [], 0) :: (7, .iconst 1, 1, [], 0) :: (8, .istore_n 2, 1, [], 0) :: c126_9
/-! 127 SueOrSettle$Sides.gained(III)I -/
def c127_31 : List JE := (31, .ireturn, 1, [], 0) :: []
def c127_18 : List JE := (18, .aload_n 0, 1, [], 0) :: (19, .getfield 28, 3, [9, 5, 1185, 0], 0) :: (22, .iload_n 1, 1, [], 0) :: (23, .iaload, 1, [], 0) :: (24, .aload_n 0, 1, [], 0) :: (25, .getfield 31, 3, [9, 6, 1186, 0], 0) :: (28, .iload_n 1, 1, [], 0) :: (29, .iaload, 1, [], 0) :: (30, .isub, 1, [], 0) :: c127_31
def c127_0 : List JE := (0, .iload_n 3, 1, [], 0) :: (1, .iload_n 2, 1, [], 0) :: (2, .ishr, 1, [], 0) :: (3, .iconst 1, 1, [], 0) :: (4, .iand, 1, [], 0) :: (5, .iconst 1, 1, [], 0) :: (6, .if_icmp .ne 12, 3, [18], 0) :: (9, .aload_n 0, 1, [], 0) :: (10, .getfield 37, 3, [9, 8, 1188, 0], 0) :: (13, .iload_n 2, 1, [], 0) :: (14, .iaload, 1, [], 0) :: (15, .goto 16, 3, [31], 0) :: c127_18
/-! 128 SueOrSettle$Sides.doAllKeepTo(II)Z -/
def c128_63 : List JE := (63, .iconst 1, 1, [], 0) :: (64, .ireturn, 1, [1], 0) :: []
def c128_57 : List JE := (57, .iinc 3 1, 3, [], 0) :: (60, .goto (-58), 3, [2], 0) :: c128_63
def c128_51 : List JE := (51, .iinc 5 1, 3, [], 0) :: (54, .goto (-27), 3, [27], 0) :: c128_57
def c128_27 : List JE := (27, .iload 5, 2, [], 0) :: (29, .aload_n 0, 1, [], 0) :: (30, .getfield 34, 3, [9, 7, 1187, 0], 0) :: (33, .if_icmp .ge 24, 3, [57], 0) :: (36, .aload_n 0, 1, [], 0) :: (37, .iload_n 3, 1, [], 0) :: (38, .iload 5, 2, [], 0) :: (40, .iload_n 2, 1, [], 0) :: (41, .invokevirtual 115, 3, [5, 3, 127, 9, 5175, 5177, 54, 1006], 0) :: (44, .iload 4, 2, [], 0) :: (46, .if_icmp .le 5, 3, [51], 0) :: (49, .iconst 0, 1, [], 0) :: (50, .ireturn, 1, [1], 0) :: c128_51
def c128_2 : List JE := (2, .iload_n 3, 1, [], 0) :: (3, .aload_n 0, 1, [], 0) :: (4, .getfield 22, 3, [9, 3, 1183, 0], 0) :: (7, .if_icmp .ge 56, 3, [63], 0) :: (10, .aload_n 0, 1, [], 0) :: (11, .iload_n 3, 1, [], 0) :: (12, .aload_n 0, 1, [], 0) :: (13, .iload_n 1, 1, [], 0) :: (14, .iload_n 3, 1, [], 0) :: (15, .invokevirtual 109, 3, [5, 2, 123, 9, 5159, 5161, 50, 1006], 0) :: (18, .iload_n 2, 1, [], 0) :: (19, .invokevirtual 115, 3, [5, 3, 127, 9, 5175, 5177, 54, 1006], 0) :: (22, .istore 4, 2, [], 0) :: (24, .iconst 0, 1, [], 0) :: (25, .istore 5, 2, [], 0) :: c128_27
def c128_0 : List JE := (0, .iconst 0, 1, [], 0) :: (1, .istore_n 3, 1, [], 0) :: c128_2
/-! 129 SueOrSettle$Sides.addEffort(II)I -/
def c129_11 : List JE := (11, .aload_n 0, 1, [], 0) :: (12, .getfield 43, 3, [9, 10, 1191, 0], 0) :: (15, .aload_n 0, 1, [], 0) :: (16, .getfield 40, 3, [9, 9, 1189, 0], 0) :: (19, .iload_n 1, 1, [], 0) :: (20, .iastore, 1, [], 0) :: (21, .aload_n 0, 1, [], 0) :: (22, .getfield 46, 3, [9, 11, 1192, 0], 0) :: (25, .aload_n 0, 1, [], 0) :: (26, .getfield 40, 3, [9, 9, 1189, 0], 0) :: (29, .iload_n 2, 1, [], 0) :: (30, .iastore, 1, [], 0) :: (31, .aload_n 0, 1, [], 0) :: (32, .dup, 1, [], 0) :: (33, .getfield 40, 3, [9, 9, 1189, 0], 0) :: (36, .iconst 1, 1, [], 0) :: (37, .iadd, 1, [], 0) :: (38, .putfield 40, 3, [9, 9, 1189, 0], 0) :: (41, .aload_n 0, 1, [], 0) :: (42, .getfield 40, 3, [9, 9, 1189, 0], 0) :: (45, .ireturn, 1, [], 0) :: []
def c129_0 : List JE := (0, .aload_n 0, 1, [], 0) :: (1, .getfield 40, 3, [9, 9, 1189, 0], 0) :: (4, .iconst 4, 1, [], 0) :: (5, .if_icmp .lt 6, 3, [11], 0) :: (8, .bipush (-3), 2, [], 0) :: (10, .ireturn, 1, [], 0) :: c129_11
/-! 130 SueOrSettle$Sides.forgetEfforts()I -/
def c130_0 : List JE := (0, .aload_n 0, 1, [], 0) :: (1, .getfield 40, 3, [9, 9, 1189, 0], 0) :: (4, .istore_n 1, 1, [], 0) :: (5, .aload_n 0, 1, [], 0) :: (6, .iconst 0, 1, [], 0) :: (7, .putfield 40, 3, [9, 9, 1189, 0], 0) :: (10, .iload_n 1, 1, [], 0) :: (11, .ireturn, 1, [], 0) :: []
/-! 131 SueOrSettle$Sides.effortFor(II)I -/
def c131_67 : List JE := (67, .iload_n 3, 1, [], 0) :: (68, .ireturn, 1, [], 0) :: []
def c131_61 : List JE := (61, .iinc 5 1, 3, [], 0) :: (64, .goto (-56), 3, [8], 0) :: c131_67
def c131_54 : List JE := (54, .iload 6, 2, [], 0) :: (56, .istore 4, 2, [], 0) :: (58, .iload 5, 2, [], 0) :: (60, .istore_n 3, 1, [], 0) :: c131_61
def c131_8 : List JE := (8, .iload 5, 2, [], 0) :: (10, .aload_n 0, 1, [], 0) :: (11, .getfield 40, 3, [9, 9, 1189, 0], 0) :: (14, .if_icmp .ge 53, 3, [67], 0) :: (17, .iload_n 2, 1, [], 0) :: (18, .iload_n 1, 1, [], 0) :: (19, .imul, 1, [], 0) :: (20, .aload_n 0, 1, [], 0) :: (21, .getfield 46, 3, [9, 11, 1192, 0], 0) :: (24, .iload 5, 2, [], 0) :: (26, .iaload, 1, [], 0) :: (27, .imul, 1, [], 0) :: (28, .sipush 10000, 3, [], 0) :: (31, .aload_n 0, 1, [], 0) :: (32, .getfield 43, 3, [9, 10, 1191, 0], 0) :: (35, .iload 5, 2, [], 0) :: (37, .iaload, 1, [], 0) :: (38, .imul, 1, [], 0) :: (39, .isub, 1, [], 0) :: (40, .istore 6, 2, [], 0) :: (42, .iload 5, 2, [], 0) :: (44, .ifCond .eq 10, 3, [54], 0) :: (47, .iload 6, 2, [], 0) :: (49, .iload 4, 2, [], 0) :: (51, .if_icmp .le 10, 3, [61], 0) :: c131_54
def c131_0 : List JE := (0, .iconst 0, 1, [], 0) :: (1, .istore_n 3, 1, [], 0) :: (2, .iconst 0, 1, [], 0) :: (3, .istore 4, 2, [], 0) :: (5, .iconst 0, 1, [], 0) :: (6, .istore 5, 2, [], 0) :: c131_8
/-! 132 SueOrSettle$Sides.leftOver(II)I -/
def c132_0 : List JE := (0, .bipush 100, 2, [], 0) :: (2, .iload_n 2, 1, [], 0) :: (3, .isub, 1, [], 0) :: (4, .iload_n 1, 1, [], 0) :: (5, .imul, 1, [], 0) :: (6, .aload_n 0, 1, [], 0) :: (7, .getfield 46, 3, [9, 11, 1192, 0], 0) :: (10, .aload_n 0, 1, [], 0) :: (11, .iload_n 1, 1, [], 0) :: (12, .iload_n 2, 1, [], 0) :: (13, .invokevirtual 118, 3, [5, 2, 131, 9, 5211, 5212, 5213, 1006], 0) :: (16, .iaload, 1, [], 0) :: (17, .imul, 1, [], 0) :: (18, .ireturn, 1, [], 0) :: []
/-! 133 SueOrSettle$Sides.bestShare(I)I -/
def c133_33 : List JE := (33, .iload_n 2, 1, [], 0) :: (34, .ireturn, 1, [], 0) :: []
def c133_27 : List JE := (27, .iinc 3 1, 3, [], 0) :: (30, .goto (-26), 3, [4], 0) :: c133_33
def c133_4 : List JE := (4, .iload_n 3, 1, [], 0) :: (5, .bipush 100, 2, [], 0) :: (7, .if_icmp .gt 26, 3, [33], 0) :: (10, .aload_n 0, 1, [], 0) :: (11, .iload_n 1, 1, [], 0) :: (12, .iload_n 3, 1, [], 0) :: (13, .invokevirtual 121, 3, [5, 2, 132, 9, 5207, 5208, 5209, 1006], 0) :: (16, .aload_n 0, 1, [], 0) :: (17, .iload_n 1, 1, [], 0) :: (18, .iload_n 2, 1, [], 0) :: (19, .invokevirtual 121, 3, [5, 2, 132, 9, 5207, 5208, 5209, 1006], 0) :: (22, .if_icmp .le 5, 3, [27], 0) :: (25, .iload_n 3, 1, [], 0) :: (26, .istore_n 2, 1, [], 0) :: c133_27
def c133_0 : List JE := (0, .iconst 0, 1, [], 0) :: (1, .istore_n 2, 1, [], 0) :: (2, .iconst 1, 1, [], 0) :: (3, .istore_n 3, 1, [], 0) :: c133_4
/-! 134 SueOrSettle$Sides.isDay(III)Z -/
def c134_36 : List JE := (36, .ireturn, 1, [1], 0) :: []
def c134_35 : List JE := (35, .iconst 0, 1, [], 0) :: c134_36
def c134_0 : List JE := (0, .iload_n 0, 1, [], 0) :: (1, .ifCond .lt 34, 3, [35], 0) :: (4, .iload_n 0, 1, [], 0) :: (5, .sipush 999, 3, [], 0) :: (8, .if_icmp .gt 27, 3, [35], 0) :: (11, .iload_n 1, 1, [], 0) :: (12, .ifCond .lt 23, 3, [35], 0) :: (15, .iload_n 1, 1, [], 0) :: (16, .bipush 100, 2, [], 0) :: (18, .if_icmp .gt 17, 3, [35], 0) :: (21, .iload_n 2, 1, [], 0) :: (22, .ifCond .lt 13, 3, [35], 0) :: (25, .iload_n 2, 1, [], 0) :: (26, .bipush 99, 2, [], 0) :: (28, .if_icmp .gt 7, 3, [35], 0) :: (31, .iconst 1, 1, [], 0) :: (32, .goto 4, 3, [36], 0) :: c134_35
/-! 135 SueOrSettle$Sides.setDay(IIII)V -/
def c135_32 : List JE := (32, .return_, 1, [], 0) :: []
def c135_0 : List JE := (0, .iload_n 1, 1, [], 0) :: (1, .ifCond .lt 31, 3, [32], 0) :: (4, .iload_n 1, 1, [], 0) :: (5, .bipush 20, 2, [], 0) :: (7, .if_icmp .ge 25, 3, [32], 0) :: (10, .aload_n 0, 1, [], 0) :: (11, .getfield 49, 3, [9, 12, 1193, 0], 0) :: (14, .iload_n 1, 1, [], 0) :: (15, .iload_n 2, 1, [], 0) :: (16, .iastore, 1, [], 0) :: (17, .aload_n 0, 1, [], 0) :: (18, .getfield 52, 3, [9, 13, 1194, 0], 0) :: (21, .iload_n 1, 1, [], 0) :: (22, .iload_n 3, 1, [], 0) :: (23, .iastore, 1, [], 0) :: (24, .aload_n 0, 1, [], 0) :: (25, .getfield 55, 3, [9, 14, 1195, 0], 0) :: (28, .iload_n 1, 1, [], 0) :: (29, .iload 4, 2, [], 0) :: (31, .iastore, 1, [], 0) :: c135_32
/-! 136 SueOrSettle$Sides.worthFrom(III)J -/
def c136_105 : List JE := (105, .lload 4, 2, [], 0) :: (107, .lreturn, 1, [], 0) :: []
def c136_18 : List JE := (18, .iload 6, 2, [], 0) :: (20, .ifCond .lt 85, 3, [105], 0) :: (23, .iload 6, 2, [], 0) :: (25, .iload_n 1, 1, [], 0) :: (26, .if_icmp .lt 79, 3, [105], 0) :: (29, .lload 4, 2, [], 0) :: (31, .ldc2_w 124, 3, [6013], 1000000) :: (34, .aload_n 0, 1, [], 0) :: (35, .getfield 55, 3, [9, 14, 1195, 0], 0) :: (38, .iload 6, 2, [], 0) :: (40, .iaload, 1, [], 0) :: (41, .i2l, 1, [], 0) :: (42, .lmul, 1, [], 0) :: (43, .lsub, 1, [], 0) :: (44, .lstore 7, 2, [], 0) :: (46, .ldc2_w 124, 3, [6013], 1000000) :: (49, .aload_n 0, 1, [], 0) :: (50, .getfield 49, 3, [9, 12, 1193, 0], 0) :: (53, .iload 6, 2, [], 0) :: (55, .iaload, 1, [], 0) :: (56, .i2l, 1, [], 0) :: (57, .lmul, 1, [], 0) :: (58, .lload 7, 2, [], 0) :: (60, .invokestatic 126, 3, [0, 2, 380, 6014, 6015, 1010], 0) :: (63, .lstore 9, 2, [], 0) :: (65, .aload_n 0, 1, [], 0) :: (66, .getfield 52, 3, [9, 13, 1194, 0], 0) :: (69, .iload 6, 2, [], 0) :: (71, .iaload, 1, [], 0) :: (72, .i2l, 1, [], 0) :: (73, .lload 9, 2, [], 0) :: (75, .lmul, 1, [], 0) :: (76, .bipush 100, 2, [], 0) :: (78, .aload_n 0, 1, [], 0) :: (79, .getfield 52, 3, [9, 13, 1194, 0], 0) :: (82, .iload 6, 2, [], 0) :: (84, .iaload, 1, [], 0) :: (85, .isub, 1, [], 0) :: (86, .i2l, 1, [], 0) :: (87, .lload 7, 2, [], 0) :: (89, .lmul, 1, [], 0) :: (90, .ladd, 1, [], 0) :: (91, .ldc2_w 129, 3, [6017], 100) :: (94, .invokestatic 131, 3, [0, 2, 378, 6018, 6019, 1010], 0) :: (97, .lstore 4, 2, [], 0) :: (99, .iinc 6 (-1), 3, [], 0) :: (102, .goto (-84), 3, [18], 0) :: c136_105
def c136_0 : List JE := (0, .ldc2_w 124, 3, [6013], 1000000) :: (3, .iload_n 3, 1, [], 0) :: (4, .i2l, 1, [], 0) :: (5, .lmul, 1, [], 0) :: (6, .lstore 4, 2, [], 0) :: (8, .iload_n 2, 1, [], 0) :: (9, .bipush 20, 2, [], 0) :: (11, .invokestatic 72, 3, [0, 2, 381, 5102, 3007, 1010], 0) :: (14, .iconst 1, 1, [], 0) :: (15, .isub, 1, [], 0) :: (16, .istore 6, 2, [], 0) :: c136_18
/-! 137 SueOrSettle$Sides.bar(III)J -/
def c137_14 : List JE := (14, .aload_n 0, 1, [], 0) :: (15, .iload_n 1, 1, [], 0) :: (16, .iconst 1, 1, [], 0) :: (17, .iadd, 1, [], 0) :: (18, .iload_n 2, 1, [], 0) :: (19, .iload_n 3, 1, [], 0) :: (20, .invokevirtual 136, 3, [5, 3, 136, 9, 6009, 6010, 6011, 1006], 0) :: (23, .ldc2_w 124, 3, [6013], 1000000) :: (26, .aload_n 0, 1, [], 0) :: (27, .getfield 55, 3, [9, 14, 1195, 0], 0) :: (30, .iload_n 1, 1, [], 0) :: (31, .iaload, 1, [], 0) :: (32, .i2l, 1, [], 0) :: (33, .lmul, 1, [], 0) :: (34, .lsub, 1, [], 0) :: (35, .lstore 4, 2, [], 0) :: (37, .lconst 0, 1, [], 0) :: (38, .ldc2_w 140, 3, [6021], 1000) :: (41, .lload 4, 2, [], 0) :: (43, .lneg, 1, [], 0) :: (44, .ldc2_w 124, 3, [6013], 1000000) :: (47, .invokestatic 131, 3, [0, 2, 378, 6018, 6019, 1010], 0) :: (50, .lneg, 1, [], 0) :: (51, .invokestatic 142, 3, [0, 2, 382, 6022, 4091, 1010], 0) :: (54, .invokestatic 126, 3, [0, 2, 380, 6014, 6015, 1010], 0) :: (57, .lreturn, 1, [], 0) :: []
def c137_10 : List JE := (10, .ldc2_w 134, 3, [6008], (-9223372036854775808)) :: (13, .lreturn, 1, [], 0) :: c137_14
def c137_0 : List JE := (0, .iload_n 1, 1, [], 0) :: (1, .ifCond .lt 9, 3, [10], 0) :: (4, .iload_n 1, 1, [], 0) :: (5, .bipush 20, 2, [], 0) :: (7, .if_icmp .lt 7, 3, [14], 0) :: c137_10
/-! 138 SueOrSettle$Things.<init>()V -/
def c138_0 : List JE := (0, .aload_n 0, 1, [], 0) :: (1, .invokespecial 3, 3, [6, 1030, 1023, 1024], 0) :: (4, .aload_n 0, 1, [], 0) :: (5, .iconst 0, 1, [], 0) :: (6, .putfield 9, 3, [10, 0, 1031, 0], 0) :: (9, .aload_n 0, 1, [], 0) :: (10, .lconst 1, 1, [], 0) :: (11, .putfield 15, 3, [10, 1, 1033, 0], 0) :: (14, .aload_n 0, 1, [], 0) :: (15, .iconst 0, 1, [], 0) :: (16, .putfield 19, 3, [10, 2, 1035, 0], 0) :: (19, .aload_n 0, 1, [], 0) :: (20, .iconst 4, 1, [], 0) :: (21, .newarray .int, 2, [], 0) :: (23, .putfield 23, 3, [10, 3, 1036, 0], 0) :: (26, .aload_n 0, 1, [], 0) :: (27, .iconst 4, 1, [], 0) :: (28, .newarray .int, 2, [], 0) :: (30, .putfield 27, 3, [10, 4, 1037, 0], 0) :: (33, .aload_n 0, 1, [], 0) :: (34, .bipush 36, 2, [], 0) :: (36, .newarray .int, 2, [], 0) :: (38, .putfield 30, 3, [10, 5, 1038, 0], 0) :: (41, .aload_n 0, 1, [], 0) :: (42, .bipush 12, 2, [], 0) :: (44, .newarray .long, 2, [], 0) :: (46, .putfield 33, 3, [10, 6, 1039, 0], 0) :: (49, .aload_n 0, 1, [], 0) :: (50, .sipush 256, 3, [], 0) :: (53, .newarray .long, 2, [], 0) :: (55, .putfield 37, 3, [10, 7, 1040, 0], 0) :: (58, .return_, 1, [], 0) :: []
/-! 139 SueOrSettle$Things.addThing(I)I -/
def c139_11 : List JE := (11, .aload_n 0, 1, [], 0) :: (12, .getfield 23, 3, [10, 3, 1036, 0], 0) :: (15, .aload_n 0, 1, [], 0) :: (16, .getfield 9, 3, [10, 0, 1031, 0], 0) :: (19, .iload_n 1, 1, [], 0) :: (20, .iastore, 1, [], 0) :: (21, .aload_n 0, 1, [], 0) :: (22, .getfield 27, 3, [10, 4, 1037, 0], 0) :: (25, .aload_n 0, 1, [], 0) :: (26, .getfield 9, 3, [10, 0, 1031, 0], 0) :: (29, .iconst (-1), 1, [], 0) :: (30, .iastore, 1, [], 0) :: (31, .aload_n 0, 1, [], 0) :: (32, .aload_n 0, 1, [], 0) :: (33, .getfield 9, 3, [10, 0, 1031, 0], 0) :: (36, .invokevirtual 40, 3, [5, 1, 144, 10, 2050, 2052, 0, 1002], 0) :: (39, .aload_n 0, 1, [], 0) :: (40, .dup, 1, [], 0) :: (41, .getfield 9, 3, [10, 0, 1031, 0], 0) :: (44, .iconst 1, 1, [], 0) :: (45, .iadd, 1, [], 0) :: (46, .putfield 9, 3, [10, 0, 1031, 0], 0) :: (49, .aload_n 0, 1, [], 0) :: (50, .iconst 0, 1, [], 0) :: (51, .putfield 19, 3, [10, 2, 1035, 0], 0) :: (54, .aload_n 0, 1, [], 0) :: (55, .getfield 9, 3, [10, 0, 1031, 0], 0) :: (58, .iconst 1, 1, [], 0) :: (59, .isub, 1, [], 0) :: (60, .ireturn, 1, [], 0) :: []
def c139_0 : List JE := (0, .aload_n 0, 1, [], 0) :: (1, .getfield 9, 3, [10, 0, 1031, 0], 0) :: (4, .iconst 4, 1, [], 0) :: (5, .if_icmp .lt 6, 3, [11], 0) :: (8, .bipush (-3), 2, [], 0) :: (10, .ireturn, 1, [], 0) :: c139_11
/-! 140 SueOrSettle$Things.isThing(I)Z -/
def c140_17 : List JE := (17, .ireturn, 1, [1], 0) :: []
def c140_16 : List JE := (16, .iconst 0, 1, [], 0) :: c140_17
def c140_0 : List JE := (0, .iload_n 1, 1, [], 0) :: (1, .ifCond .lt 15, 3, [16], 0) :: (4, .iload_n 1, 1, [], 0) :: (5, .aload_n 0, 1, [], 0) :: (6, .getfield 9, 3, [10, 0, 1031, 0], 0) :: (9, .if_icmp .ge 7, 3, [16], 0) :: (12, .iconst 1, 1, [], 0) :: (13, .goto 4, 3, [17], 0) :: c140_16
/-! 141 SueOrSettle$Things.waysOf(I)I -/
def c141_18 : List JE := (18, .ireturn, 1, [], 0) :: []
def c141_17 : List JE := (17, .iconst 0, 1, [], 0) :: c141_18
def c141_0 : List JE := (0, .aload_n 0, 1, [], 0) :: (1, .iload_n 1, 1, [], 0) :: (2, .invokevirtual 44, 3, [5, 1, 140, 10, 2069, 2062, 2063, 1002], 0) :: (5, .ifCond .eq 12, 3, [17], 0) :: (8, .aload_n 0, 1, [], 0) :: (9, .getfield 23, 3, [10, 3, 1036, 0], 0) :: (12, .iload_n 1, 1, [], 0) :: (13, .iaload, 1, [], 0) :: (14, .goto 4, 3, [18], 0) :: c141_17
/-! 142 SueOrSettle$Things.hangs(I)Z -/
def c142_22 : List JE := (22, .ireturn, 1, [1], 0) :: []
def c142_21 : List JE := (21, .iconst 0, 1, [], 0) :: c142_22
def c142_0 : List JE := (0, .aload_n 0, 1, [], 0) :: (1, .iload_n 1, 1, [], 0) :: (2, .invokevirtual 44, 3, [5, 1, 140, 10, 2069, 2062, 2063, 1002], 0) :: (5, .ifCond .eq 16, 3, [21], 0) :: (8, .aload_n 0, 1, [], 0) :: (9, .getfield 27, 3, [10, 4, 1037, 0], 0) :: (12, .iload_n 1, 1, [], 0) :: (13, .iaload, 1, [], 0) :: (14, .ifCond .lt 7, 3, [21], 0) :: (17, .iconst 1, 1, [], 0) :: (18, .goto 4, 3, [22], 0) :: c142_21
/-! 143 SueOrSettle$Things.hangOn(II)V -/
def c143_33 : List JE := (33, .return_, 1, [], 0) :: []
def c143_0 : List JE := (0, .aload_n 0, 1, [], 0) :: (1, .iload_n 1, 1, [], 0) :: (2, .invokevirtual 44, 3, [5, 1, 140, 10, 2069, 2062, 2063, 1002], 0) :: (5, .ifCond .eq 28, 3, [33], 0) :: (8, .aload_n 0, 1, [], 0) :: (9, .iload_n 2, 1, [], 0) :: (10, .invokevirtual 44, 3, [5, 1, 140, 10, 2069, 2062, 2063, 1002], 0) :: (13, .ifCond .eq 20, 3, [33], 0) :: (16, .aload_n 0, 1, [], 0) :: (17, .getfield 27, 3, [10, 4, 1037, 0], 0) :: (20, .iload_n 1, 1, [], 0) :: (21, .iload_n 2, 1, [], 0) :: (22, .iastore, 1, [], 0) :: (23, .aload_n 0, 1, [], 0) :: (24, .iload_n 1, 1, [], 0) :: (25, .invokevirtual 40, 3, [5, 1, 144, 10, 2050, 2052, 0, 1002], 0) :: (28, .aload_n 0, 1, [], 0) :: (29, .iconst 0, 1, [], 0) :: (30, .putfield 19, 3, [10, 2, 1035, 0], 0) :: c143_33
/-! 144 SueOrSettle$Things.levelWeights(I)V -/
def c144_38 : List JE := (38, .return_, 1, [], 0) :: []
def c144_7 : List JE := (7, .iload_n 2, 1, [], 0) :: (8, .iload_n 1, 1, [], 0) :: (9, .iconst 1, 1, [], 0) :: (10, .iadd, 1, [], 0) :: (11, .iconst 0, 1, [], 0) :: (12, .iconst 0, 1, [], 0) :: (13, .invokestatic 48, 3, [0, 3, 147, 2054, 2055, 1002], 0) :: (16, .if_icmp .ge 22, 3, [38], 0) :: (19, .iload_n 2, 1, [], 0) :: (20, .bipush 36, 2, [], 0) :: (22, .if_icmp .ge 16, 3, [38], 0) :: (25, .aload_n 0, 1, [], 0) :: (26, .getfield 30, 3, [10, 5, 1038, 0], 0) :: (29, .iload_n 2, 1, [], 0) :: (30, .iconst 1, 1, [], 0) :: (31, .iastore, 1, [], 0) :: (32, .iinc 2 1, 3, [], 0) :: (35, .goto (-28), 3, [7], 0) :: c144_38
def c144_0 : List JE := (0, .iload_n 1, 1, [], 0) :: (1, .iconst 0, 1, [], 0) :: (2, .iconst 0, 1, [], 0) :: (3, .invokestatic 48, 3, [0, 3, 147, 2054, 2055, 1002], 0) :: (6, .istore_n 2, 1, [], 0) :: c144_7
/-! 145 SueOrSettle$Things.rowsOf(I)I -/
def c145_24 : List JE := (24, .ireturn, 1, [], 0) :: []
def c145_13 : List JE := (13, .aload_n 0, 1, [], 0) :: (14, .getfield 23, 3, [10, 3, 1036, 0], 0) :: (17, .aload_n 0, 1, [], 0) :: (18, .getfield 27, 3, [10, 4, 1037, 0], 0) :: (21, .iload_n 1, 1, [], 0) :: (22, .iaload, 1, [], 0) :: (23, .iaload, 1, [], 0) :: c145_24
def c145_0 : List JE := (0, .aload_n 0, 1, [], 0) :: (1, .getfield 27, 3, [10, 4, 1037, 0], 0) :: (4, .iload_n 1, 1, [], 0) :: (5, .iaload, 1, [], 0) :: (6, .ifCond .ge 7, 3, [13], 0) :: (9, .iconst 1, 1, [], 0) :: (10, .goto 14, 3, [24], 0) :: c145_13
/-! 146 SueOrSettle$Things.hasWeight(III)Z -/
def c146_40 : List JE := (40, .ireturn, 1, [1], 0) :: []
def c146_39 : List JE := (39, .iconst 0, 1, [], 0) :: c146_40
def c146_0 : List JE := (0, .aload_n 0, 1, [], 0) :: (1, .iload_n 1, 1, [], 0) :: (2, .invokevirtual 44, 3, [5, 1, 140, 10, 2069, 2062, 2063, 1002], 0) :: (5, .ifCond .eq 34, 3, [39], 0) :: (8, .iload_n 2, 1, [], 0) :: (9, .ifCond .lt 30, 3, [39], 0) :: (12, .iload_n 2, 1, [], 0) :: (13, .aload_n 0, 1, [], 0) :: (14, .iload_n 1, 1, [], 0) :: (15, .invokevirtual 52, 3, [5, 1, 145, 10, 2082, 2084, 1, 1002], 0) :: (18, .if_icmp .ge 21, 3, [39], 0) :: (21, .iload_n 3, 1, [], 0) :: (22, .ifCond .lt 17, 3, [39], 0) :: (25, .iload_n 3, 1, [], 0) :: (26, .aload_n 0, 1, [], 0) :: (27, .getfield 23, 3, [10, 3, 1036, 0], 0) :: (30, .iload_n 1, 1, [], 0) :: (31, .iaload, 1, [], 0) :: (32, .if_icmp .ge 7, 3, [39], 0) :: (35, .iconst 1, 1, [], 0) :: (36, .goto 4, 3, [40], 0) :: c146_39
/-! 147 SueOrSettle$Things.placeOf(III)I -/
def c147_0 : List JE := (0, .bipush 9, 2, [], 0) :: (2, .iload_n 0, 1, [], 0) :: (3, .imul, 1, [], 0) :: (4, .iconst 3, 1, [], 0) :: (5, .iload_n 1, 1, [], 0) :: (6, .imul, 1, [], 0) :: (7, .iadd, 1, [], 0) :: (8, .iload_n 2, 1, [], 0) :: (9, .iadd, 1, [], 0) :: (10, .ireturn, 1, [], 0) :: []
/-! 148 SueOrSettle$Things.weightAt(I)I -/
def c148_20 : List JE := (20, .ireturn, 1, [], 0) :: []
def c148_14 : List JE := (14, .aload_n 0, 1, [], 0) :: (15, .getfield 30, 3, [10, 5, 1038, 0], 0) :: (18, .iload_n 1, 1, [], 0) :: (19, .iaload, 1, [], 0) :: c148_20
def c148_10 : List JE := (10, .iconst 0, 1, [], 0) :: (11, .goto 9, 3, [20], 0) :: c148_14
def c148_0 : List JE := (0, .iload_n 1, 1, [], 0) :: (1, .ifCond .lt 9, 3, [10], 0) :: (4, .iload_n 1, 1, [], 0) :: (5, .bipush 36, 2, [], 0) :: (7, .if_icmp .lt 7, 3, [14], 0) :: c148_10
/-! 149 SueOrSettle$Things.setWeight(II)V -/
def c149_32 : List JE := (32, .return_, 1, [], 0) :: []
def c149_0 : List JE := (0, .iload_n 1, 1, [], 0) :: (1, .ifCond .lt 31, 3, [32], 0) :: (4, .iload_n 1, 1, [], 0) :: (5, .bipush 36, 2, [], 0) :: (7, .if_icmp .ge 25, 3, [32], 0) :: (10, .aload_n 0, 1, [], 0) :: (11, .getfield 30, 3, [10, 5, 1038, 0], 0) :: (14, .iload_n 1, 1, [], 0) :: (15, .iaload, 1, [], 0) :: (16, .iload_n 2, 1, [], 0) :: (17, .if_icmp .eq 15, 3, [32], 0) :: (20, .aload_n 0, 1, [], 0) :: (21, .getfield 30, 3, [10, 5, 1038, 0], 0) :: (24, .iload_n 1, 1, [], 0) :: (25, .iload_n 2, 1, [], 0) :: (26, .iastore, 1, [], 0) :: (27, .aload_n 0, 1, [], 0) :: (28, .iconst 0, 1, [], 0) :: (29, .putfield 19, 3, [10, 2, 1035, 0], 0) :: c149_32
/-! 150 SueOrSettle$Things.rowSum(II)I -/
def c150_37 : List JE := (37, .iload_n 3, 1, [], 0) :: (38, .ireturn, 1, [], 0) :: []
def c150_5 : List JE := (5, .iload 4, 2, [], 0) :: (7, .aload_n 0, 1, [], 0) :: (8, .getfield 23, 3, [10, 3, 1036, 0], 0) :: (11, .iload_n 1, 1, [], 0) :: (12, .iaload, 1, [], 0) :: (13, .if_icmp .ge 24, 3, [37], 0) :: (16, .iload_n 3, 1, [], 0) :: (17, .aload_n 0, 1, [], 0) :: (18, .getfield 30, 3, [10, 5, 1038, 0], 0) :: (21, .iload_n 1, 1, [], 0) :: (22, .iload_n 2, 1, [], 0) :: (23, .iload 4, 2, [], 0) :: (25, .invokestatic 48, 3, [0, 3, 147, 2054, 2055, 1002], 0) :: (28, .iaload, 1, [], 0) :: (29, .iadd, 1, [], 0) :: (30, .istore_n 3, 1, [], 0) :: (31, .iinc 4 1, 3, [], 0) :: (34, .goto (-29), 3, [5], 0) :: c150_37
def c150_0 : List JE := (0, .iconst 0, 1, [], 0) :: (1, .istore_n 3, 1, [], 0) :: (2, .iconst 0, 1, [], 0) :: (3, .istore 4, 2, [], 0) :: c150_5
/-! 151 SueOrSettle$Things.commonMultiple(I)J -/
def c151_58 : List JE := (58, .lload_n 2, 1, [], 0) :: (59, .lreturn, 1, [], 0) :: []
def c151_51 : List JE := (51, .lstore_n 2, 1, [], 0) :: (52, .iinc 4 1, 3, [], 0) :: (55, .goto (-50), 3, [5], 0) :: c151_58
def c151_44 : List JE := (44, .lload_n 2, 1, [], 0) :: (45, .lload 7, 2, [], 0) :: (47, .ldiv, 1, [], 0) :: (48, .lload 5, 2, [], 0) :: (50, .lmul, 1, [], 0) :: c151_51
def c151_5 : List JE := (5, .iload 4, 2, [], 0) :: (7, .aload_n 0, 1, [], 0) :: (8, .iload_n 1, 1, [], 0) :: (9, .invokevirtual 52, 3, [5, 1, 145, 10, 2082, 2084, 1, 1002], 0) :: (12, .if_icmp .ge 46, 3, [58], 0) :: (15, .aload_n 0, 1, [], 0) :: (16, .iload_n 1, 1, [], 0) :: (17, .iload 4, 2, [], 0) :: (19, .invokevirtual 56, 3, [5, 2, 150, 10, 2118, 2119, 2120, 1002], 0) :: (22, .i2l, 1, [], 0) :: (23, .lstore 5, 2, [], 0) :: (25, .lload_n 2, 1, [], 0) :: (26, .lload 5, 2, [], 0) :: (28, .invokestatic 60, 3, [2, 2, 224, 2122, 2123, 1001], 0) :: (31, .lstore 7, 2, [], 0) :: (33, .lload 7, 2, [], 0) :: (35, .lconst 1, 1, [], 0) :: (36, .lcmp, 1, [], 0) :: (37, .ifCond .ge 7, 3, [44], 0) :: (40, .lload_n 2, 1, [], 0) :: (41, .goto 10, 3, [51], 0) :: c151_44
def c151_0 : List JE := (0, .lconst 1, 1, [], 0) :: (1, .lstore_n 2, 1, [], 0) :: (2, .iconst 0, 1, [], 0) :: (3, .istore 4, 2, [], 0) :: c151_5
/-! 152 SueOrSettle$Things.bottomOf()J -/
def c152_50 : List JE := (50, .lload_n 1, 1, [], 0) :: (51, .lreturn, 1, [], 0) :: []
def c152_39 : List JE := (39, .lload_n 1, 1, [], 0) :: (40, .lload 4, 2, [], 0) :: (42, .lmul, 1, [], 0) :: (43, .lstore_n 1, 1, [], 0) :: (44, .iinc 3 1, 3, [], 0) :: (47, .goto (-43), 3, [4], 0) :: c152_50
def c152_37 : List JE := (37, .lconst 0, 1, [], 0) :: (38, .lreturn, 1, [], 0) :: c152_39
def c152_4 : List JE := (4, .iload_n 3, 1, [], 0) :: (5, .aload_n 0, 1, [], 0) :: (6, .getfield 9, 3, [10, 0, 1031, 0], 0) :: (9, .if_icmp .ge 41, 3, [50], 0) :: (12, .aload_n 0, 1, [], 0) :: (13, .iload_n 3, 1, [], 0) :: (14, .invokevirtual 64, 3, [5, 1, 151, 10, 2114, 2116, 3, 1002], 0) :: (17, .lstore 4, 2, [], 0) :: (19, .lload 4, 2, [], 0) :: (21, .lconst 1, 1, [], 0) :: (22, .lcmp, 1, [], 0) :: (23, .ifCond .lt 14, 3, [37], 0) :: (26, .lload_n 1, 1, [], 0) :: (27, .ldc2_w 68, 3, [2125], 1000000000000) :: (30, .lload 4, 2, [], 0) :: (32, .ldiv, 1, [], 0) :: (33, .lcmp, 1, [], 0) :: (34, .ifCond .le 5, 3, [39], 0) :: c152_37
def c152_0 : List JE := (0, .lconst 1, 1, [], 0) :: (1, .lstore_n 1, 1, [], 0) :: (2, .iconst 0, 1, [], 0) :: (3, .istore_n 3, 1, [], 0) :: c152_4
/-! 153 SueOrSettle$Things.ready()Z -/
def c153_47 : List JE := (47, .ireturn, 1, [1], 0) :: []
def c153_46 : List JE := (46, .iconst 0, 1, [], 0) :: c153_47
def c153_33 : List JE := (33, .aload_n 0, 1, [], 0) :: (34, .getfield 15, 3, [10, 1, 1033, 0], 0) :: (37, .lconst 0, 1, [], 0) :: (38, .lcmp, 1, [], 0) :: (39, .ifCond .le 7, 3, [46], 0) :: (42, .iconst 1, 1, [], 0) :: (43, .goto 4, 3, [47], 0) :: c153_46
def c153_0 : List JE := (0, .aload_n 0, 1, [], 0) :: (1, .getfield 19, 3, [10, 2, 1035, 0], 0) :: (4, .ifCond .ne 29, 3, [33], 0) :: (7, .aload_n 0, 1, [], 0) :: (8, .iconst 1, 1, [], 0) :: (9, .putfield 19, 3, [10, 2, 1035, 0], 0) :: (12, .aload_n 0, 1, [], 0) :: (13, .aload_n 0, 1, [], 0) :: (14, .invokevirtual 70, 3, [5, 0, 152, 10, 2110, 2111, 2112, 1002], 0) :: (17, .putfield 15, 3, [10, 1, 1033, 0], 0) :: (20, .aload_n 0, 1, [], 0) :: (21, .getfield 15, 3, [10, 1, 1033, 0], 0) :: (24, .lconst 0, 1, [], 0) :: (25, .lcmp, 1, [], 0) :: (26, .ifCond .le 7, 3, [33], 0) :: (29, .aload_n 0, 1, [], 0) :: (30, .invokevirtual 74, 3, [5, 0, 154, 10, 2126, 2128, 4, 1002], 0) :: c153_33
/-! 154 SueOrSettle$Things.weighStates()V -/
def c154_125 : List JE := (125, .return_, 1, [], 0) :: []
def c154_106 : List JE := (106, .iload_n 1, 1, [], 0) :: (107, .aload_n 0, 1, [], 0) :: (108, .getfield 9, 3, [10, 0, 1031, 0], 0) :: (111, .if_icmp .ge 14, 3, [125], 0) :: (114, .aload_n 0, 1, [], 0) :: (115, .iload_n 1, 1, [], 0) :: (116, .invokevirtual 80, 3, [5, 1, 156, 10, 2134, 2136, 6, 1002], 0) :: (119, .iinc 1 1, 3, [], 0) :: (122, .goto (-16), 3, [106], 0) :: c154_125
def c154_104 : List JE := (104, .iconst 0, 1, [], 0) :: (105, .istore_n 1, 1, [], 0) :: c154_106
def c154_85 : List JE := (85, .iload_n 1, 1, [], 0) :: (86, .aload_n 0, 1, [], 0) :: (87, .getfield 9, 3, [10, 0, 1031, 0], 0) :: (90, .if_icmp .ge 14, 3, [104], 0) :: (93, .aload_n 0, 1, [], 0) :: (94, .iload_n 1, 1, [], 0) :: (95, .invokevirtual 77, 3, [5, 1, 155, 10, 2130, 2132, 5, 1002], 0) :: (98, .iinc 1 1, 3, [], 0) :: (101, .goto (-16), 3, [85], 0) :: c154_104
def c154_76 : List JE := (76, .aload_n 0, 1, [], 0) :: (77, .getfield 37, 3, [10, 7, 1040, 0], 0) :: (80, .iconst 0, 1, [], 0) :: (81, .lconst 1, 1, [], 0) :: (82, .lastore, 1, [], 0) :: (83, .iconst 0, 1, [], 0) :: (84, .istore_n 1, 1, [], 0) :: c154_85
def c154_70 : List JE := (70, .iinc 1 1, 3, [], 0) :: (73, .goto (-71), 3, [2], 0) :: c154_76
def c154_63 : List JE := (63, .lastore, 1, [], 0) :: (64, .iinc 4 1, 3, [], 0) :: (67, .goto (-48), 3, [19], 0) :: c154_70
def c154_58 : List JE := (58, .lload_n 2, 1, [], 0) :: (59, .iload 5, 2, [], 0) :: (61, .i2l, 1, [], 0) :: (62, .ldiv, 1, [], 0) :: c154_63
def c154_19 : List JE := (19, .iload 4, 2, [], 0) :: (21, .aload_n 0, 1, [], 0) :: (22, .iload_n 1, 1, [], 0) :: (23, .invokevirtual 52, 3, [5, 1, 145, 10, 2082, 2084, 1, 1002], 0) :: (26, .if_icmp .ge 44, 3, [70], 0) :: (29, .aload_n 0, 1, [], 0) :: (30, .iload_n 1, 1, [], 0) :: (31, .iload 4, 2, [], 0) :: (33, .invokevirtual 56, 3, [5, 2, 150, 10, 2118, 2119, 2120, 1002], 0) :: (36, .istore 5, 2, [], 0) :: (38, .aload_n 0, 1, [], 0) :: (39, .getfield 33, 3, [10, 6, 1039, 0], 0) :: (42, .iconst 3, 1, [], 0) :: (43, .iload_n 1, 1, [], 0) :: (44, .imul, 1, [], 0) :: (45, .iload 4, 2, [], 0) :: (47, .iadd, 1, [], 0) :: (48, .iload 5, 2, [], 0) :: (50, .iconst 1, 1, [], 0) :: (51, .if_icmp .ge 7, 3, [58], 0) :: (54, .lconst 0, 1, [], 0) :: (55, .goto 8, 3, [63], 0) :: c154_58
def c154_2 : List JE := (2, .iload_n 1, 1, [], 0) :: (3, .aload_n 0, 1, [], 0) :: (4, .getfield 9, 3, [10, 0, 1031, 0], 0) :: (7, .if_icmp .ge 69, 3, [76], 0) :: (10, .aload_n 0, 1, [], 0) :: (11, .iload_n 1, 1, [], 0) :: (12, .invokevirtual 64, 3, [5, 1, 151, 10, 2114, 2116, 3, 1002], 0) :: (15, .lstore_n 2, 1, [], 0) :: (16, .iconst 0, 1, [], 0) :: (17, .istore 4, 2, [], 0) :: c154_19
def c154_0 : List JE := (0, .iconst 0, 1, [], 0) :: (1, .istore_n 1, 1, [], 0) :: c154_2
/-! 155 SueOrSettle$Things.spread(I)V -/
def c155_156 : List JE := (156, .return_, 1, [], 0) :: []
def c155_143 : List JE := (143, .aload_n 0, 1, [], 0) :: (144, .getfield 37, 3, [10, 7, 1040, 0], 0) :: (147, .iload_n 2, 1, [], 0) :: (148, .lconst 0, 1, [], 0) :: (149, .lastore, 1, [], 0) :: (150, .iinc 2 1, 3, [], 0) :: (153, .goto (-151), 3, [2], 0) :: c155_156
def c155_136 : List JE := (136, .lastore, 1, [], 0) :: (137, .iinc 6 1, 3, [], 0) :: (140, .goto (-90), 3, [50], 0) :: c155_143
def c155_135 : List JE := (135, .lconst 0, 1, [], 0) :: c155_136
def c155_83 : List JE := (83, .istore 7, 2, [], 0) :: (85, .aload_n 0, 1, [], 0) :: (86, .getfield 37, 3, [10, 7, 1040, 0], 0) :: (89, .iload_n 2, 1, [], 0) :: (90, .iload 6, 2, [], 0) :: (92, .iconst 1, 1, [], 0) :: (93, .iadd, 1, [], 0) :: (94, .iconst 2, 1, [], 0) :: (95, .iload_n 1, 1, [], 0) :: (96, .imul, 1, [], 0) :: (97, .ishl, 1, [], 0) :: (98, .ior, 1, [], 0) :: (99, .iload 7, 2, [], 0) :: (101, .ifCond .eq 34, 3, [135], 0) :: (104, .lload_n 3, 1, [], 0) :: (105, .aload_n 0, 1, [], 0) :: (106, .getfield 30, 3, [10, 5, 1038, 0], 0) :: (109, .iload_n 1, 1, [], 0) :: (110, .iload 5, 2, [], 0) :: (112, .iload 6, 2, [], 0) :: (114, .invokestatic 48, 3, [0, 3, 147, 2054, 2055, 1002], 0) :: (117, .iaload, 1, [], 0) :: (118, .i2l, 1, [], 0) :: (119, .lmul, 1, [], 0) :: (120, .aload_n 0, 1, [], 0) :: (121, .getfield 33, 3, [10, 6, 1039, 0], 0) :: (124, .iconst 3, 1, [], 0) :: (125, .iload_n 1, 1, [], 0) :: (126, .imul, 1, [], 0) :: (127, .iload 5, 2, [], 0) :: (129, .iadd, 1, [], 0) :: (130, .laload, 1, [], 0) :: (131, .lmul, 1, [], 0) :: (132, .goto 4, 3, [136], 0) :: c155_135
def c155_82 : List JE := (82, .iconst 0, 1, [], 0) :: c155_83
def c155_50 : List JE := (50, .iload 6, 2, [], 0) :: (52, .iconst 3, 1, [], 0) :: (53, .if_icmp .ge 90, 3, [143], 0) :: (56, .lload_n 3, 1, [], 0) :: (57, .lconst 0, 1, [], 0) :: (58, .lcmp, 1, [], 0) :: (59, .ifCond .le 23, 3, [82], 0) :: (62, .iload 5, 2, [], 0) :: (64, .ifCond .lt 18, 3, [82], 0) :: (67, .iload 6, 2, [], 0) :: (69, .aload_n 0, 1, [], 0) :: (70, .getfield 23, 3, [10, 3, 1036, 0], 0) :: (73, .iload_n 1, 1, [], 0) :: (74, .iaload, 1, [], 0) :: (75, .if_icmp .ge 7, 3, [82], 0) :: (78, .iconst 1, 1, [], 0) :: (79, .goto 4, 3, [83], 0) :: c155_82
def c155_45 : List JE := (45, .istore 5, 2, [], 0) :: (47, .iconst 0, 1, [], 0) :: (48, .istore 6, 2, [], 0) :: c155_50
def c155_31 : List JE := (31, .iload_n 2, 1, [], 0) :: (32, .iconst 2, 1, [], 0) :: (33, .aload_n 0, 1, [], 0) :: (34, .getfield 27, 3, [10, 4, 1037, 0], 0) :: (37, .iload_n 1, 1, [], 0) :: (38, .iaload, 1, [], 0) :: (39, .imul, 1, [], 0) :: (40, .ishr, 1, [], 0) :: (41, .iconst 3, 1, [], 0) :: (42, .iand, 1, [], 0) :: (43, .iconst 1, 1, [], 0) :: (44, .isub, 1, [], 0) :: c155_45
def c155_2 : List JE := (2, .iload_n 2, 1, [], 0) :: (3, .iconst 1, 1, [], 0) :: (4, .iconst 2, 1, [], 0) :: (5, .iload_n 1, 1, [], 0) :: (6, .imul, 1, [], 0) :: (7, .ishl, 1, [], 0) :: (8, .if_icmp .ge 148, 3, [156], 0) :: (11, .aload_n 0, 1, [], 0) :: (12, .getfield 37, 3, [10, 7, 1040, 0], 0) :: (15, .iload_n 2, 1, [], 0) :: (16, .laload, 1, [], 0) :: (17, .lstore_n 3, 1, [], 0) :: (18, .aload_n 0, 1, [], 0) :: (19, .getfield 27, 3, [10, 4, 1037, 0], 0) :: (22, .iload_n 1, 1, [], 0) :: (23, .iaload, 1, [], 0) :: (24, .ifCond .ge 7, 3, [31], 0) :: (27, .iconst 0, 1, [], 0) :: (28, .goto 17, 3, [45], 0) :: c155_31
def c155_0 : List JE := (0, .iconst 0, 1, [], 0) :: (1, .istore_n 2, 1, [], 0) :: c155_2
/-! 156 SueOrSettle$Things.addUp(I)V -/
def c156_91 : List JE := (91, .return_, 1, [], 0) :: []
def c156_82 : List JE := (82, .iload_n 3, 1, [], 0) :: (83, .iconst 4, 1, [], 0) :: (84, .iload_n 2, 1, [], 0) :: (85, .imul, 1, [], 0) :: (86, .iadd, 1, [], 0) :: (87, .istore_n 3, 1, [], 0) :: (88, .goto (-80), 3, [8], 0) :: c156_91
def c156_67 : List JE := (67, .aload_n 0, 1, [], 0) :: (68, .getfield 37, 3, [10, 7, 1040, 0], 0) :: (71, .iload 4, 2, [], 0) :: (73, .lload 5, 2, [], 0) :: (75, .lastore, 1, [], 0) :: (76, .iinc 4 1, 3, [], 0) :: (79, .goto (-60), 3, [19], 0) :: c156_82
def c156_33 : List JE := (33, .iload 7, 2, [], 0) :: (35, .aload_n 0, 1, [], 0) :: (36, .getfield 23, 3, [10, 3, 1036, 0], 0) :: (39, .iload_n 1, 1, [], 0) :: (40, .iaload, 1, [], 0) :: (41, .if_icmp .gt 26, 3, [67], 0) :: (44, .lload 5, 2, [], 0) :: (46, .aload_n 0, 1, [], 0) :: (47, .getfield 37, 3, [10, 7, 1040, 0], 0) :: (50, .iload 4, 2, [], 0) :: (52, .iload 7, 2, [], 0) :: (54, .iload_n 2, 1, [], 0) :: (55, .imul, 1, [], 0) :: (56, .iadd, 1, [], 0) :: (57, .laload, 1, [], 0) :: (58, .ladd, 1, [], 0) :: (59, .lstore 5, 2, [], 0) :: (61, .iinc 7 1, 3, [], 0) :: (64, .goto (-31), 3, [33], 0) :: c156_67
def c156_19 : List JE := (19, .iload 4, 2, [], 0) :: (21, .iload_n 3, 1, [], 0) :: (22, .iload_n 2, 1, [], 0) :: (23, .iadd, 1, [], 0) :: (24, .if_icmp .ge 58, 3, [82], 0) :: (27, .lconst 0, 1, [], 0) :: (28, .lstore 5, 2, [], 0) :: (30, .iconst 1, 1, [], 0) :: (31, .istore 7, 2, [], 0) :: c156_33
def c156_8 : List JE := (8, .iload_n 3, 1, [], 0) :: (9, .aload_n 0, 1, [], 0) :: (10, .invokevirtual 83, 3, [5, 0, 157, 10, 2138, 2139, 2140, 1002], 0) :: (13, .if_icmp .ge 78, 3, [91], 0) :: (16, .iload_n 3, 1, [], 0) :: (17, .istore 4, 2, [], 0) :: c156_19
def c156_0 : List JE := (0, .iconst 1, 1, [], 0) :: (1, .iconst 2, 1, [], 0) :: (2, .iload_n 1, 1, [], 0) :: (3, .imul, 1, [], 0) :: (4, .ishl, 1, [], 0) :: (5, .istore_n 2, 1, [], 0) :: (6, .iconst 0, 1, [], 0) :: (7, .istore_n 3, 1, [], 0) :: c156_8
/-! 157 SueOrSettle$Things.codes()I -/
def c157_0 : List JE := (0, .iconst 1, 1, [], 0) :: (1, .iconst 2, 1, [], 0) :: (2, .aload_n 0, 1, [], 0) :: (3, .getfield 9, 3, [10, 0, 1031, 0], 0) :: (6, .imul, 1, [], 0) :: (7, .ishl, 1, [], 0) :: (8, .ireturn, 1, [], 0) :: []
/-! 158 SueOrSettle$Things.isTold(I)Z -/
def c158_48 : List JE := (48, .iconst 1, 1, [], 0) :: (49, .ireturn, 1, [1], 0) :: []
def c158_42 : List JE := (42, .iinc 2 1, 3, [], 0) :: (45, .goto (-29), 3, [16], 0) :: c158_48
def c158_16 : List JE := (16, .iload_n 2, 1, [], 0) :: (17, .aload_n 0, 1, [], 0) :: (18, .getfield 9, 3, [10, 0, 1031, 0], 0) :: (21, .if_icmp .ge 27, 3, [48], 0) :: (24, .iload_n 1, 1, [], 0) :: (25, .iconst 2, 1, [], 0) :: (26, .iload_n 2, 1, [], 0) :: (27, .imul, 1, [], 0) :: (28, .ishr, 1, [], 0) :: (29, .iconst 3, 1, [], 0) :: (30, .iand, 1, [], 0) :: (31, .aload_n 0, 1, [], 0) :: (32, .getfield 23, 3, [10, 3, 1036, 0], 0) :: (35, .iload_n 2, 1, [], 0) :: (36, .iaload, 1, [], 0) :: (37, .if_icmp .le 5, 3, [42], 0) :: (40, .iconst 0, 1, [], 0) :: (41, .ireturn, 1, [1], 0) :: c158_42
def c158_14 : List JE := (14, .iconst 0, 1, [], 0) :: (15, .istore_n 2, 1, [], 0) :: c158_16
def c158_12 : List JE := (12, .iconst 0, 1, [], 0) :: (13, .ireturn, 1, [1], 0) :: c158_14
def c158_0 : List JE := (0, .iload_n 1, 1, [], 0) :: (1, .ifCond .lt 11, 3, [12], 0) :: (4, .iload_n 1, 1, [], 0) :: (5, .aload_n 0, 1, [], 0) :: (6, .invokevirtual 83, 3, [5, 0, 157, 10, 2138, 2139, 2140, 1002], 0) :: (9, .if_icmp .lt 5, 3, [14], 0) :: c158_12
/-! 159 SueOrSettle$Things.isState(I)Z -/
def c159_48 : List JE := (48, .iconst 1, 1, [], 0) :: (49, .ireturn, 1, [1], 0) :: []
def c159_42 : List JE := (42, .iinc 2 1, 3, [], 0) :: (45, .goto (-29), 3, [16], 0) :: c159_48
def c159_16 : List JE := (16, .iload_n 2, 1, [], 0) :: (17, .aload_n 0, 1, [], 0) :: (18, .getfield 9, 3, [10, 0, 1031, 0], 0) :: (21, .if_icmp .ge 27, 3, [48], 0) :: (24, .iload_n 1, 1, [], 0) :: (25, .iconst 2, 1, [], 0) :: (26, .iload_n 2, 1, [], 0) :: (27, .imul, 1, [], 0) :: (28, .ishr, 1, [], 0) :: (29, .iconst 3, 1, [], 0) :: (30, .iand, 1, [], 0) :: (31, .aload_n 0, 1, [], 0) :: (32, .getfield 23, 3, [10, 3, 1036, 0], 0) :: (35, .iload_n 2, 1, [], 0) :: (36, .iaload, 1, [], 0) :: (37, .if_icmp .lt 5, 3, [42], 0) :: (40, .iconst 0, 1, [], 0) :: (41, .ireturn, 1, [1], 0) :: c159_42
def c159_14 : List JE := (14, .iconst 0, 1, [], 0) :: (15, .istore_n 2, 1, [], 0) :: c159_16
def c159_12 : List JE := (12, .iconst 0, 1, [], 0) :: (13, .ireturn, 1, [1], 0) :: c159_14
def c159_0 : List JE := (0, .iload_n 1, 1, [], 0) :: (1, .ifCond .lt 11, 3, [12], 0) :: (4, .iload_n 1, 1, [], 0) :: (5, .aload_n 0, 1, [], 0) :: (6, .invokevirtual 83, 3, [5, 0, 157, 10, 2138, 2139, 2140, 1002], 0) :: (9, .if_icmp .lt 5, 3, [14], 0) :: c159_12
/-! 160 SueOrSettle$Things.codeOf(I)I -/
def c160_0 : List JE := (0, .iload_n 1, 1, [], 0) :: (1, .aload_n 0, 1, [], 0) :: (2, .invokevirtual 83, 3, [5, 0, 157, 10, 2138, 2139, 2140, 1002], 0) :: (5, .iconst 1, 1, [], 0) :: (6, .isub, 1, [], 0) :: (7, .iconst 3, 1, [], 0) :: (8, .idiv, 1, [], 0) :: (9, .iadd, 1, [], 0) :: (10, .ireturn, 1, [], 0) :: []
/-! 161 SueOrSettle$Things.massOf(I)J -/
def c161_22 : List JE := (22, .lreturn, 1, [], 0) :: []
def c161_16 : List JE := (16, .aload_n 0, 1, [], 0) :: (17, .getfield 37, 3, [10, 7, 1040, 0], 0) :: (20, .iload_n 1, 1, [], 0) :: (21, .laload, 1, [], 0) :: c161_22
def c161_12 : List JE := (12, .lconst 0, 1, [], 0) :: (13, .goto 9, 3, [22], 0) :: c161_16
def c161_0 : List JE := (0, .iload_n 1, 1, [], 0) :: (1, .ifCond .lt 11, 3, [12], 0) :: (4, .iload_n 1, 1, [], 0) :: (5, .aload_n 0, 1, [], 0) :: (6, .invokevirtual 83, 3, [5, 0, 157, 10, 2138, 2139, 2140, 1002], 0) :: (9, .if_icmp .lt 7, 3, [16], 0) :: c161_12
/-! 162 SueOrSettle$Things.toldBits(I)I -/
def c162_0 : List JE := (0, .iload_n 0, 1, [], 0) :: (1, .iload_n 0, 1, [], 0) :: (2, .iconst 1, 1, [], 0) :: (3, .ishr, 1, [], 0) :: (4, .ior, 1, [], 0) :: (5, .bipush 85, 2, [], 0) :: (7, .iand, 1, [], 0) :: (8, .iconst 3, 1, [], 0) :: (9, .imul, 1, [], 0) :: (10, .ireturn, 1, [], 0) :: []
/-! 163 SueOrSettle$Things.massWith(II)J -/
def c163_27 : List JE := (27, .lreturn, 1, [], 0) :: []
def c163_20 : List JE := (20, .aload_n 0, 1, [], 0) :: (21, .iload_n 1, 1, [], 0) :: (22, .iload_n 2, 1, [], 0) :: (23, .ior, 1, [], 0) :: (24, .invokevirtual 90, 3, [5, 1, 161, 10, 2178, 2157, 2158, 1002], 0) :: c163_27
def c163_0 : List JE := (0, .iload_n 1, 1, [], 0) :: (1, .iload_n 2, 1, [], 0) :: (2, .ixor, 1, [], 0) :: (3, .iload_n 1, 1, [], 0) :: (4, .invokestatic 87, 3, [0, 1, 162, 2175, 2176, 1002], 0) :: (7, .iand, 1, [], 0) :: (8, .iload_n 2, 1, [], 0) :: (9, .invokestatic 87, 3, [0, 1, 162, 2175, 2176, 1002], 0) :: (12, .iand, 1, [], 0) :: (13, .ifCond .eq 7, 3, [20], 0) :: (16, .lconst 0, 1, [], 0) :: (17, .goto 10, 3, [27], 0) :: c163_20
/-! 164 SueOrSettle$Things.drawn(III)I -/
def c164_100 : List JE := (100, .aload_n 0, 1, [], 0) :: (101, .getfield 23, 3, [10, 3, 1036, 0], 0) :: (104, .iload_n 1, 1, [], 0) :: (105, .iaload, 1, [], 0) :: (106, .iconst 1, 1, [], 0) :: (107, .isub, 1, [], 0) :: (108, .ireturn, 1, [], 0) :: []
def c164_94 : List JE := (94, .iinc 7 1, 3, [], 0) :: (97, .goto (-42), 3, [55], 0) :: c164_100
def c164_55 : List JE := (55, .iload 7, 2, [], 0) :: (57, .aload_n 0, 1, [], 0) :: (58, .getfield 23, 3, [10, 3, 1036, 0], 0) :: (61, .iload_n 1, 1, [], 0) :: (62, .iaload, 1, [], 0) :: (63, .iconst 1, 1, [], 0) :: (64, .isub, 1, [], 0) :: (65, .if_icmp .ge 35, 3, [100], 0) :: (68, .iload 6, 2, [], 0) :: (70, .aload_n 0, 1, [], 0) :: (71, .getfield 30, 3, [10, 5, 1038, 0], 0) :: (74, .iload_n 1, 1, [], 0) :: (75, .iload 4, 2, [], 0) :: (77, .iload 7, 2, [], 0) :: (79, .invokestatic 48, 3, [0, 3, 147, 2054, 2055, 1002], 0) :: (82, .iaload, 1, [], 0) :: (83, .isub, 1, [], 0) :: (84, .istore 6, 2, [], 0) :: (86, .iload 6, 2, [], 0) :: (88, .ifCond .ge 6, 3, [94], 0) :: (91, .iload 7, 2, [], 0) :: (93, .ireturn, 1, [], 0) :: c164_94
def c164_50 : List JE := (50, .istore 6, 2, [], 0) :: (52, .iconst 0, 1, [], 0) :: (53, .istore 7, 2, [], 0) :: c164_55
def c164_46 : List JE := (46, .iload_n 3, 1, [], 0) :: (47, .iload 5, 2, [], 0) :: (49, .irem, 1, [], 0) :: c164_50
def c164_25 : List JE := (25, .istore 4, 2, [], 0) :: (27, .aload_n 0, 1, [], 0) :: (28, .iload_n 1, 1, [], 0) :: (29, .iload 4, 2, [], 0) :: (31, .invokevirtual 56, 3, [5, 2, 150, 10, 2118, 2119, 2120, 1002], 0) :: (34, .istore 5, 2, [], 0) :: (36, .iload 5, 2, [], 0) :: (38, .iconst 1, 1, [], 0) :: (39, .if_icmp .ge 7, 3, [46], 0) :: (42, .iconst 0, 1, [], 0) :: (43, .goto 7, 3, [50], 0) :: c164_46
def c164_13 : List JE := (13, .iload_n 2, 1, [], 0) :: (14, .iconst 2, 1, [], 0) :: (15, .aload_n 0, 1, [], 0) :: (16, .getfield 27, 3, [10, 4, 1037, 0], 0) :: (19, .iload_n 1, 1, [], 0) :: (20, .iaload, 1, [], 0) :: (21, .imul, 1, [], 0) :: (22, .ishr, 1, [], 0) :: (23, .iconst 3, 1, [], 0) :: (24, .iand, 1, [], 0) :: c164_25
def c164_0 : List JE := (0, .aload_n 0, 1, [], 0) :: (1, .getfield 27, 3, [10, 4, 1037, 0], 0) :: (4, .iload_n 1, 1, [], 0) :: (5, .iaload, 1, [], 0) :: (6, .ifCond .ge 7, 3, [13], 0) :: (9, .iconst 0, 1, [], 0) :: (10, .goto 15, 3, [25], 0) :: c164_13
/-! 165 SueOrSettle.<init>()V -/
def c165_0 : List JE := (0, .aload_n 0, 1, [], 0) :: (1, .invokespecial 1, 3, [6, 1022, 1023, 1024], 0) :: (4, .aload_n 0, 1, [], 0) :: (5, .new 7, 3, [10, 1025, 1026, 1002], 0) :: (8, .dup, 1, [], 0) :: (9, .invokespecial 9, 3, [3, 0, 138, 1027, 1028, 1002], 0) :: (12, .putfield 10, 3, [11, 0, 1230, 0], 0) :: (15, .aload_n 0, 1, [], 0) :: (16, .new 16, 3, [5, 1060, 1061, 1003], 0) :: (19, .dup, 1, [], 0) :: (20, .invokespecial 18, 3, [3, 0, 62, 1062, 1063, 1003], 0) :: (23, .putfield 19, 3, [11, 1, 1231, 0], 0) :: (26, .aload_n 0, 1, [], 0) :: (27, .bipush 6, 2, [], 0) :: (29, .anewarray 23, 3, [24, 1115], 0) :: (32, .putfield 25, 3, [11, 2, 1232, 0], 0) :: (35, .aload_n 0, 1, [], 0) :: (36, .iconst 0, 1, [], 0) :: (37, .putfield 29, 3, [11, 3, 1233, 0], 0) :: (40, .aload_n 0, 1, [], 0) :: (41, .new 33, 3, [7, 1117, 1118, 1004], 0) :: (44, .dup, 1, [], 0) :: (45, .invokespecial 35, 3, [3, 0, 88, 1119, 1120, 1004], 0) :: (48, .putfield 36, 3, [11, 4, 1234, 0], 0) :: (51, .aload_n 0, 1, [], 0) :: (52, .new 40, 3, [0, 1143, 1144, 1005], 0) :: (55, .dup, 1, [], 0) :: (56, .aload_n 0, 1, [], 0) :: (57, .getfield 36, 3, [11, 4, 1234, 0], 0) :: (60, .iconst 0, 1, [], 0) :: (61, .iconst 0, 1, [], 0) :: (62, .invokespecial 42, 3, [1, 3, 0, 1145, 1146, 1005], 0) :: (65, .putfield 45, 3, [11, 5, 1235, 0], 0) :: (68, .aload_n 0, 1, [], 0) :: (69, .bipush 20, 2, [], 0) :: (71, .anewarray 40, 3, [25, 1143], 0) :: (74, .putfield 49, 3, [11, 6, 1236, 0], 0) :: (77, .aload_n 0, 1, [], 0) :: (78, .iconst 0, 1, [], 0) :: (79, .putfield 53, 3, [11, 7, 1237, 0], 0) :: (82, .aload_n 0, 1, [], 0) :: (83, .bipush 120, 2, [], 0) :: (85, .newarray .int, 2, [], 0) :: (87, .putfield 56, 3, [11, 8, 1238, 0], 0) :: (90, .aload_n 0, 1, [], 0) :: (91, .iconst 0, 1, [], 0) :: (92, .putfield 60, 3, [11, 9, 1239, 0], 0) :: (95, .aload_n 0, 1, [], 0) :: (96, .iconst 0, 1, [], 0) :: (97, .putfield 63, 3, [11, 10, 2000, 0], 0) :: (100, .aload_n 0, 1, [], 0) :: (101, .new 66, 3, [9, 1174, 1175, 1006], 0) :: (104, .dup, 1, [], 0) :: (105, .invokespecial 68, 3, [3, 0, 102, 1176, 1177, 1006], 0) :: (108, .putfield 69, 3, [11, 11, 2001, 0], 0) :: (111, .aload_n 0, 1, [], 0) :: (112, .bipush 6, 2, [], 0) :: (114, .newarray .int, 2, [], 0) :: (116, .putfield 73, 3, [11, 12, 2002, 0], 0) :: (119, .aload_n 0, 1, [], 0) :: (120, .bipush 6, 2, [], 0) :: (122, .newarray .int, 2, [], 0) :: (124, .putfield 76, 3, [11, 13, 2003, 0], 0) :: (127, .aload_n 0, 1, [], 0) :: (128, .sipush 360, 3, [], 0) :: (131, .newarray .long, 2, [], 0) :: (133, .putfield 79, 3, [11, 14, 2004, 0], 0) :: (136, .aload_n 0, 1, [], 0) :: (137, .sipush 396, 3, [], 0) :: (140, .newarray .long, 2, [], 0) :: (142, .putfield 83, 3, [11, 15, 2005, 0], 0) :: (145, .aload_n 0, 1, [], 0) :: (146, .bipush 99, 2, [], 0) :: (148, .newarray .int, 2, [], 0) :: (150, .putfield 86, 3, [11, 16, 2006, 0], 0) :: (153, .aload_n 0, 1, [], 0) :: (154, .getfield 73, 3, [11, 12, 2002, 0], 0) :: (157, .iconst (-1), 1, [], 0) :: (158, .invokestatic 89, 3, [0, 2, 383, 1227, 1228, 1007], 0) :: (161, .return_, 1, [], 0) :: []
/-! 166 SueOrSettle.thing(I)I -/
def c166_46 : List JE := (46, .ireturn, 1, [], 0) :: []
def c166_38 : List JE := (38, .aload_n 0, 1, [], 0) :: (39, .getfield 10, 3, [11, 0, 1230, 0], 0) :: (42, .iload_n 1, 1, [], 0) :: (43, .invokevirtual 98, 3, [5, 1, 139, 10, 2046, 2047, 2048, 1002], 0) :: c166_46
def c166_22 : List JE := (22, .aload_n 0, 1, [], 0) :: (23, .getfield 10, 3, [11, 0, 1230, 0], 0) :: (26, .getfield 95, 3, [10, 0, 1032, 0], 0) :: (29, .iconst 4, 1, [], 0) :: (30, .if_icmp .lt 8, 3, [38], 0) :: (33, .bipush (-3), 2, [], 0) :: (35, .goto 11, 3, [46], 0) :: c166_38
def c166_12 : List JE := (12, .aload_n 0, 1, [], 0) :: (13, .getfield 29, 3, [11, 3, 1233, 0], 0) :: (16, .ifCond .le 6, 3, [22], 0) :: (19, .bipush (-5), 2, [], 0) :: (21, .ireturn, 1, [], 0) :: c166_22
def c166_10 : List JE := (10, .iconst (-1), 1, [], 0) :: (11, .ireturn, 1, [], 0) :: c166_12
def c166_0 : List JE := (0, .iload_n 1, 1, [], 0) :: (1, .iconst 2, 1, [], 0) :: (2, .if_icmp .lt 8, 3, [10], 0) :: (5, .iload_n 1, 1, [], 0) :: (6, .iconst 3, 1, [], 0) :: (7, .if_icmp .le 5, 3, [12], 0) :: c166_10
/-! 167 SueOrSettle.hang(II)I -/
def c167_43 : List JE := (43, .aload_n 0, 1, [], 0) :: (44, .getfield 10, 3, [11, 0, 1230, 0], 0) :: (47, .iload_n 1, 1, [], 0) :: (48, .iload_n 2, 1, [], 0) :: (49, .invokevirtual 109, 3, [5, 2, 143, 10, 2070, 2071, 2072, 1002], 0) :: (52, .aload_n 0, 1, [], 0) :: (53, .iconst 0, 1, [], 0) :: (54, .putfield 60, 3, [11, 9, 1239, 0], 0) :: (57, .aload_n 0, 1, [], 0) :: (58, .iconst 0, 1, [], 0) :: (59, .putfield 63, 3, [11, 10, 2000, 0], 0) :: (62, .iconst 1, 1, [], 0) :: (63, .ireturn, 1, [], 0) :: []
def c167_40 : List JE := (40, .bipush (-5), 2, [], 0) :: (42, .ireturn, 1, [], 0) :: c167_43
def c167_22 : List JE := (22, .aload_n 0, 1, [], 0) :: (23, .getfield 10, 3, [11, 0, 1230, 0], 0) :: (26, .iload_n 1, 1, [], 0) :: (27, .invokevirtual 106, 3, [5, 1, 142, 10, 2065, 2066, 2067, 1002], 0) :: (30, .ifCond .ne 10, 3, [40], 0) :: (33, .aload_n 0, 1, [], 0) :: (34, .getfield 29, 3, [11, 3, 1233, 0], 0) :: (37, .ifCond .le 6, 3, [43], 0) :: c167_40
def c167_20 : List JE := (20, .iconst (-1), 1, [], 0) :: (21, .ireturn, 1, [], 0) :: c167_22
def c167_0 : List JE := (0, .aload_n 0, 1, [], 0) :: (1, .getfield 10, 3, [11, 0, 1230, 0], 0) :: (4, .iload_n 1, 1, [], 0) :: (5, .invokevirtual 102, 3, [5, 1, 140, 10, 2061, 2062, 2063, 1002], 0) :: (8, .ifCond .eq 12, 3, [20], 0) :: (11, .iload_n 2, 1, [], 0) :: (12, .ifCond .lt 8, 3, [20], 0) :: (15, .iload_n 2, 1, [], 0) :: (16, .iload_n 1, 1, [], 0) :: (17, .if_icmp .lt 5, 3, [22], 0) :: c167_20
/-! 168 SueOrSettle.weight(IIII)I -/
def c168_28 : List JE := (28, .iload_n 1, 1, [], 0) :: (29, .iload_n 2, 1, [], 0) :: (30, .iload_n 3, 1, [], 0) :: (31, .invokestatic 117, 3, [0, 3, 147, 2086, 2055, 1002], 0) :: (34, .istore 5, 2, [], 0) :: (36, .aload_n 0, 1, [], 0) :: (37, .getfield 10, 3, [11, 0, 1230, 0], 0) :: (40, .iload 5, 2, [], 0) :: (42, .invokevirtual 121, 3, [5, 1, 148, 10, 2087, 2088, 2089, 1002], 0) :: (45, .istore 6, 2, [], 0) :: (47, .aload_n 0, 1, [], 0) :: (48, .getfield 10, 3, [11, 0, 1230, 0], 0) :: (51, .iload 5, 2, [], 0) :: (53, .iload 4, 2, [], 0) :: (55, .invokevirtual 124, 3, [5, 2, 149, 10, 2091, 2092, 2093, 1002], 0) :: (58, .aload_n 0, 1, [], 0) :: (59, .iload 5, 2, [], 0) :: (61, .iload 6, 2, [], 0) :: (63, .iload 4, 2, [], 0) :: (65, .invokevirtual 127, 3, [5, 3, 229, 11, 2095, 2097, 2, 1001], 0) :: (68, .iload 6, 2, [], 0) :: (70, .ireturn, 1, [], 0) :: []
def c168_26 : List JE := (26, .iconst (-1), 1, [], 0) :: (27, .ireturn, 1, [], 0) :: c168_28
def c168_0 : List JE := (0, .aload_n 0, 1, [], 0) :: (1, .getfield 10, 3, [11, 0, 1230, 0], 0) :: (4, .iload_n 1, 1, [], 0) :: (5, .iload_n 2, 1, [], 0) :: (6, .iload_n 3, 1, [], 0) :: (7, .invokevirtual 113, 3, [5, 3, 146, 10, 2078, 2079, 2080, 1002], 0) :: (10, .ifCond .eq 16, 3, [26], 0) :: (13, .iload 4, 2, [], 0) :: (15, .iconst 1, 1, [], 0) :: (16, .if_icmp .lt 10, 3, [26], 0) :: (19, .iload 4, 2, [], 0) :: (21, .bipush 99, 2, [], 0) :: (23, .if_icmp .le 5, 3, [28], 0) :: c168_26
/-! 169 SueOrSettle.bottom()J -/
def c169_23 : List JE := (23, .lreturn, 1, [], 0) :: []
def c169_20 : List JE := (20, .ldc2_w 139, 3, [2142], (-4)) :: c169_23
def c169_0 : List JE := (0, .aload_n 0, 1, [], 0) :: (1, .getfield 10, 3, [11, 0, 1230, 0], 0) :: (4, .invokevirtual 131, 3, [5, 0, 153, 10, 2106, 2107, 2108, 1002], 0) :: (7, .ifCond .eq 13, 3, [20], 0) :: (10, .aload_n 0, 1, [], 0) :: (11, .getfield 10, 3, [11, 0, 1230, 0], 0) :: (14, .getfield 135, 3, [10, 1, 1034, 0], 0) :: (17, .goto 6, 3, [23], 0) :: c169_20
/-! 170 SueOrSettle.number(I)J -/
def c170_46 : List JE := (46, .lreturn, 1, [], 0) :: []
def c170_43 : List JE := (43, .ldc2_w 139, 3, [2142], (-4)) :: c170_46
def c170_15 : List JE := (15, .aload_n 0, 1, [], 0) :: (16, .getfield 10, 3, [11, 0, 1230, 0], 0) :: (19, .invokevirtual 131, 3, [5, 0, 153, 10, 2106, 2107, 2108, 1002], 0) :: (22, .ifCond .eq 21, 3, [43], 0) :: (25, .aload_n 0, 1, [], 0) :: (26, .getfield 10, 3, [11, 0, 1230, 0], 0) :: (29, .aload_n 0, 1, [], 0) :: (30, .getfield 10, 3, [11, 0, 1230, 0], 0) :: (33, .iload_n 1, 1, [], 0) :: (34, .invokevirtual 146, 3, [5, 1, 160, 10, 2152, 2153, 2154, 1002], 0) :: (37, .invokevirtual 149, 3, [5, 1, 161, 10, 2156, 2157, 2158, 1002], 0) :: (40, .goto 6, 3, [46], 0) :: c170_43
def c170_0 : List JE := (0, .aload_n 0, 1, [], 0) :: (1, .getfield 10, 3, [11, 0, 1230, 0], 0) :: (4, .iload_n 1, 1, [], 0) :: (5, .invokevirtual 141, 3, [5, 1, 159, 10, 2147, 2148, 2149, 1002], 0) :: (8, .ifCond .ne 7, 3, [15], 0) :: (11, .ldc2_w 144, 3, [2151], (-1)) :: (14, .lreturn, 1, [], 0) :: c170_15
/-! 171 SueOrSettle.chance(III)J -/
def c171_47 : List JE := (47, .aload_n 0, 1, [], 0) :: (48, .getfield 10, 3, [11, 0, 1230, 0], 0) :: (51, .iload_n 1, 1, [], 0) :: (52, .iload_n 2, 1, [], 0) :: (53, .invokevirtual 159, 3, [5, 2, 163, 10, 2171, 2172, 2173, 1002], 0) :: (56, .aload_n 0, 1, [], 0) :: (57, .getfield 10, 3, [11, 0, 1230, 0], 0) :: (60, .iload_n 2, 1, [], 0) :: (61, .invokevirtual 149, 3, [5, 1, 161, 10, 2156, 2157, 2158, 1002], 0) :: (64, .iload_n 3, 1, [], 0) :: (65, .invokestatic 163, 3, [0, 3, 223, 2179, 2180, 1001], 0) :: (68, .lreturn, 1, [], 0) :: []
def c171_33 : List JE := (33, .aload_n 0, 1, [], 0) :: (34, .getfield 10, 3, [11, 0, 1230, 0], 0) :: (37, .invokevirtual 131, 3, [5, 0, 153, 10, 2106, 2107, 2108, 1002], 0) :: (40, .ifCond .ne 7, 3, [47], 0) :: (43, .ldc2_w 139, 3, [2142], (-4)) :: (46, .lreturn, 1, [], 0) :: c171_47
def c171_29 : List JE := (29, .ldc2_w 144, 3, [2151], (-1)) :: (32, .lreturn, 1, [], 0) :: c171_33
def c171_0 : List JE := (0, .aload_n 0, 1, [], 0) :: (1, .getfield 10, 3, [11, 0, 1230, 0], 0) :: (4, .iload_n 1, 1, [], 0) :: (5, .invokevirtual 153, 3, [5, 1, 158, 10, 2164, 2165, 2166, 1002], 0) :: (8, .ifCond .eq 21, 3, [29], 0) :: (11, .aload_n 0, 1, [], 0) :: (12, .getfield 10, 3, [11, 0, 1230, 0], 0) :: (15, .iload_n 2, 1, [], 0) :: (16, .invokevirtual 153, 3, [5, 1, 158, 10, 2164, 2165, 2166, 1002], 0) :: (19, .ifCond .eq 10, 3, [29], 0) :: (22, .iload_n 3, 1, [], 0) :: (23, .invokestatic 156, 3, [0, 1, 221, 2168, 2169, 1001], 0) :: (26, .ifCond .ne 7, 3, [33], 0) :: c171_29
/-! 172 SueOrSettle.feed(II)I -/
def c172_37 : List JE := (37, .ireturn, 1, [], 0) :: []
def c172_35 : List JE := (35, .bipush (-3), 2, [], 0) :: c172_37
def c172_12 : List JE := (12, .aload_n 0, 1, [], 0) :: (13, .getfield 19, 3, [11, 1, 1231, 0], 0) :: (16, .iload_n 1, 1, [], 0) :: (17, .invokevirtual 167, 3, [5, 1, 63, 5, 2187, 2188, 2189, 1003], 0) :: (20, .ifCond .eq 15, 3, [35], 0) :: (23, .aload_n 0, 1, [], 0) :: (24, .getfield 19, 3, [11, 1, 1231, 0], 0) :: (27, .iload_n 1, 1, [], 0) :: (28, .iload_n 2, 1, [], 0) :: (29, .invokevirtual 170, 3, [5, 2, 64, 5, 2191, 2192, 2193, 1003], 0) :: (32, .goto 5, 3, [37], 0) :: c172_35
def c172_10 : List JE := (10, .iconst (-1), 1, [], 0) :: (11, .ireturn, 1, [], 0) :: c172_12
def c172_0 : List JE := (0, .iload_n 1, 1, [], 0) :: (1, .iconst 1, 1, [], 0) :: (2, .if_icmp .lt 8, 3, [10], 0) :: (5, .iload_n 1, 1, [], 0) :: (6, .iconst 4, 1, [], 0) :: (7, .if_icmp .le 5, 3, [12], 0) :: c172_10
/-! 173 SueOrSettle.quarrel()I -/
def c173_93 : List JE := (93, .aload_n 0, 1, [], 0) :: (94, .getfield 19, 3, [11, 1, 1231, 0], 0) :: (97, .invokevirtual 188, 3, [5, 0, 65, 5, 3104, 3105, 3106, 1003], 0) :: (100, .iload_n 2, 1, [], 0) :: (101, .ireturn, 1, [], 0) :: []
def c173_61 : List JE := (61, .aload_n 0, 1, [], 0) :: (62, .getfield 29, 3, [11, 3, 1233, 0], 0) :: (65, .istore_n 2, 1, [], 0) :: (66, .aload_n 0, 1, [], 0) :: (67, .getfield 25, 3, [11, 2, 1232, 0], 0) :: (70, .aload_n 0, 1, [], 0) :: (71, .getfield 29, 3, [11, 3, 1233, 0], 0) :: (74, .aload_n 0, 1, [], 0) :: (75, .getfield 19, 3, [11, 1, 1231, 0], 0) :: (78, .iload_n 1, 1, [], 0) :: (79, .invokevirtual 184, 3, [5, 1, 81, 5, 3030, 3031, 3032, 1003], 0) :: (82, .aastore, 1, [24, 4], 0) :: (83, .aload_n 0, 1, [], 0) :: (84, .dup, 1, [], 0) :: (85, .getfield 29, 3, [11, 3, 1233, 0], 0) :: (88, .iconst 1, 1, [], 0) :: (89, .iadd, 1, [], 0) :: (90, .putfield 29, 3, [11, 3, 1233, 0], 0) :: c173_93
def c173_42 : List JE := (42, .aload_n 0, 1, [], 0) :: (43, .getfield 19, 3, [11, 1, 1231, 0], 0) :: (46, .iload_n 1, 1, [], 0) :: (47, .invokevirtual 181, 3, [5, 1, 66, 5, 3026, 3027, 3028, 1003], 0) :: (50, .bipush 100, 2, [], 0) :: (52, .if_icmp .le 9, 3, [61], 0) :: (55, .bipush (-3), 2, [], 0) :: (57, .istore_n 2, 1, [], 0) :: (58, .goto 35, 3, [93], 0) :: c173_61
def c173_12 : List JE := (12, .aload_n 0, 1, [], 0) :: (13, .getfield 19, 3, [11, 1, 1231, 0], 0) :: (16, .aload_n 0, 1, [], 0) :: (17, .getfield 10, 3, [11, 0, 1230, 0], 0) :: (20, .invokevirtual 174, 3, [5, 1, 67, 5, 2199, 2200, 2201, 1003], 0) :: (23, .istore_n 1, 1, [], 0) :: (24, .iload_n 1, 1, [], 0) :: (25, .ifCond .ge 17, 3, [42], 0) :: (28, .bipush (-100), 2, [], 0) :: (30, .aload_n 0, 1, [], 0) :: (31, .getfield 19, 3, [11, 1, 1231, 0], 0) :: (34, .getfield 178, 3, [5, 1, 1069, 0], 0) :: (37, .isub, 1, [], 0) :: (38, .istore_n 2, 1, [], 0) :: (39, .goto 54, 3, [93], 0) :: c173_42
def c173_0 : List JE := (0, .aload_n 0, 1, [], 0) :: (1, .getfield 29, 3, [11, 3, 1233, 0], 0) :: (4, .bipush 6, 2, [], 0) :: (6, .if_icmp .lt 6, 3, [12], 0) :: (9, .bipush (-3), 2, [], 0) :: (11, .ireturn, 1, [], 0) :: c173_12
/-! 174 SueOrSettle.node(III)I -/
def c174_144 : List JE := (144, .ireturn, 1, [], 0) :: []
def c174_142 : List JE := (142, .ldc 194, 2, [3116], (-2000000000)) :: c174_144
def c174_110 : List JE := (110, .iload_n 3, 1, [], 0) :: (111, .bipush 10, 2, [], 0) :: (113, .if_icmp .lt 29, 3, [142], 0) :: (116, .aload 4, 2, [], 0) :: (118, .iload_n 2, 1, [], 0) :: (119, .iload_n 3, 1, [], 0) :: (120, .bipush 10, 2, [], 0) :: (122, .isub, 1, [], 0) :: (123, .invokevirtual 215, 3, [5, 2, 25, 4, 3142, 3135, 3136, 1011], 0) :: (126, .ifCond .eq 16, 3, [142], 0) :: (129, .aload 4, 2, [], 0) :: (131, .iload_n 2, 1, [], 0) :: (132, .iload_n 3, 1, [], 0) :: (133, .bipush 10, 2, [], 0) :: (135, .isub, 1, [], 0) :: (136, .invokevirtual 218, 3, [5, 2, 30, 4, 3143, 3144, 3145, 1011], 0) :: (139, .goto 5, 3, [144], 0) :: c174_142
def c174_80 : List JE := (80, .iload_n 3, 1, [], 0) :: (81, .bipush 20, 2, [], 0) :: (83, .if_icmp .lt 27, 3, [110], 0) :: (86, .aload 4, 2, [], 0) :: (88, .iload_n 2, 1, [], 0) :: (89, .iload_n 3, 1, [], 0) :: (90, .bipush 20, 2, [], 0) :: (92, .isub, 1, [], 0) :: (93, .invokevirtual 208, 3, [5, 2, 26, 4, 3130, 3131, 3132, 1011], 0) :: (96, .ifCond .eq 14, 3, [110], 0) :: (99, .aload 4, 2, [], 0) :: (101, .iload_n 2, 1, [], 0) :: (102, .iload_n 3, 1, [], 0) :: (103, .bipush 20, 2, [], 0) :: (105, .isub, 1, [], 0) :: (106, .invokevirtual 212, 3, [5, 2, 31, 4, 3138, 3139, 3140, 1011], 0) :: (109, .ireturn, 1, [], 0) :: c174_110
def c174_79 : List JE := (79, .ireturn, 1, [], 0) :: c174_80
def c174_73 : List JE := (73, .aload 4, 2, [], 0) :: (75, .iload_n 2, 1, [], 0) :: (76, .invokevirtual 205, 3, [5, 1, 28, 4, 3126, 3127, 3128, 1011], 0) :: c174_79
def c174_49 : List JE := (49, .iload_n 3, 1, [], 0) :: (50, .iconst 1, 1, [], 0) :: (51, .if_icmp .ne 29, 3, [80], 0) :: (54, .aload 4, 2, [], 0) :: (56, .iload_n 2, 1, [], 0) :: (57, .invokevirtual 199, 3, [5, 1, 27, 4, 3118, 3119, 3120, 1011], 0) :: (60, .iconst 1, 1, [], 0) :: (61, .if_icmp .ne 12, 3, [73], 0) :: (64, .aload 4, 2, [], 0) :: (66, .iload_n 2, 1, [], 0) :: (67, .invokevirtual 202, 3, [5, 1, 29, 4, 3122, 3123, 3124, 1011], 0) :: (70, .goto 9, 3, [79], 0) :: c174_73
def c174_38 : List JE := (38, .iload_n 3, 1, [], 0) :: (39, .ifCond .ne 10, 3, [49], 0) :: (42, .aload 4, 2, [], 0) :: (44, .iload_n 2, 1, [], 0) :: (45, .invokevirtual 199, 3, [5, 1, 27, 4, 3118, 3119, 3120, 1011], 0) :: (48, .ireturn, 1, [], 0) :: c174_49
def c174_26 : List JE := (26, .aload 4, 2, [], 0) :: (28, .iload_n 2, 1, [], 0) :: (29, .invokevirtual 196, 3, [5, 1, 24, 4, 3117, 3101, 3102, 1011], 0) :: (32, .ifCond .ne 6, 3, [38], 0) :: (35, .ldc 194, 2, [3116], (-2000000000)) :: (37, .ireturn, 1, [], 0) :: c174_38
def c174_15 : List JE := (15, .iload_n 3, 1, [], 0) :: (16, .iconst 2, 1, [], 0) :: (17, .if_icmp .ne 9, 3, [26], 0) :: (20, .aload 4, 2, [], 0) :: (22, .getfield 195, 3, [4, 0, 3043, 0], 0) :: (25, .ireturn, 1, [], 0) :: c174_26
def c174_0 : List JE := (0, .aload_n 0, 1, [], 0) :: (1, .iload_n 1, 1, [], 0) :: (2, .invokevirtual 191, 3, [5, 1, 219, 11, 3112, 3114, 21, 1001], 0) :: (5, .astore 4, 2, [], 0) :: (7, .aload 4, 2, [], 0) :: (9, .ifnonnull 6, 3, [15], 0) :: (12, .ldc 194, 2, [3116], (-2000000000)) :: (14, .ireturn, 1, [], 0) :: c174_15
/-! 175 SueOrSettle.change(IIII)I -/
def c175_36 : List JE := (36, .aload 5, 2, [], 0) :: (38, .iload_n 2, 1, [], 0) :: (39, .iload_n 3, 1, [], 0) :: (40, .invokevirtual 227, 3, [5, 2, 34, 4, 3160, 3161, 3162, 1011], 0) :: (43, .istore 6, 2, [], 0) :: (45, .aload 5, 2, [], 0) :: (47, .iload_n 2, 1, [], 0) :: (48, .iload_n 3, 1, [], 0) :: (49, .iload 4, 2, [], 0) :: (51, .invokevirtual 230, 3, [5, 3, 35, 4, 3165, 3166, 3167, 1011], 0) :: (54, .aload_n 0, 1, [], 0) :: (55, .iload_n 1, 1, [], 0) :: (56, .iload_n 2, 1, [], 0) :: (57, .iload_n 3, 1, [], 0) :: (58, .invokestatic 233, 3, [0, 3, 228, 3169, 3170, 1001], 0) :: (61, .iload 6, 2, [], 0) :: (63, .iload 4, 2, [], 0) :: (65, .invokevirtual 127, 3, [5, 3, 229, 11, 2095, 2097, 2, 1001], 0) :: (68, .iload 6, 2, [], 0) :: (70, .ireturn, 1, [], 0) :: []
def c175_33 : List JE := (33, .ldc 194, 2, [3116], (-2000000000)) :: (35, .ireturn, 1, [], 0) :: c175_36
def c175_0 : List JE := (0, .aload_n 0, 1, [], 0) :: (1, .iload_n 1, 1, [], 0) :: (2, .invokevirtual 191, 3, [5, 1, 219, 11, 3112, 3114, 21, 1001], 0) :: (5, .astore 5, 2, [], 0) :: (7, .aload 5, 2, [], 0) :: (9, .ifnull 24, 3, [33], 0) :: (12, .aload 5, 2, [], 0) :: (14, .iload_n 2, 1, [], 0) :: (15, .iload_n 3, 1, [], 0) :: (16, .invokevirtual 221, 3, [5, 2, 32, 4, 3151, 3152, 3153, 1011], 0) :: (19, .ifCond .eq 14, 3, [33], 0) :: (22, .aload 5, 2, [], 0) :: (24, .iload_n 3, 1, [], 0) :: (25, .iload 4, 2, [], 0) :: (27, .invokevirtual 224, 3, [5, 2, 33, 4, 3156, 3157, 3158, 1011], 0) :: (30, .ifCond .ne 6, 3, [36], 0) :: c175_33
/-! 176 SueOrSettle.undo()I -/
def c176_10 : List JE := (10, .aload_n 0, 1, [], 0) :: (11, .dup, 1, [], 0) :: (12, .getfield 60, 3, [11, 9, 1239, 0], 0) :: (15, .iconst 1, 1, [], 0) :: (16, .isub, 1, [], 0) :: (17, .putfield 60, 3, [11, 9, 1239, 0], 0) :: (20, .aload_n 0, 1, [], 0) :: (21, .dup, 1, [], 0) :: (22, .getfield 63, 3, [11, 10, 2000, 0], 0) :: (25, .iconst 1, 1, [], 0) :: (26, .iadd, 1, [], 0) :: (27, .putfield 63, 3, [11, 10, 2000, 0], 0) :: (30, .aload_n 0, 1, [], 0) :: (31, .aload_n 0, 1, [], 0) :: (32, .getfield 56, 3, [11, 8, 1238, 0], 0) :: (35, .iconst 3, 1, [], 0) :: (36, .aload_n 0, 1, [], 0) :: (37, .getfield 60, 3, [11, 9, 1239, 0], 0) :: (40, .imul, 1, [], 0) :: (41, .iaload, 1, [], 0) :: (42, .aload_n 0, 1, [], 0) :: (43, .getfield 56, 3, [11, 8, 1238, 0], 0) :: (46, .iconst 3, 1, [], 0) :: (47, .aload_n 0, 1, [], 0) :: (48, .getfield 60, 3, [11, 9, 1239, 0], 0) :: (51, .imul, 1, [], 0) :: (52, .iconst 1, 1, [], 0) :: (53, .iadd, 1, [], 0) :: (54, .iaload, 1, [], 0) :: (55, .invokevirtual 236, 3, [5, 2, 230, 11, 3176, 3178, 22, 1001], 0) :: (58, .aload_n 0, 1, [], 0) :: (59, .getfield 60, 3, [11, 9, 1239, 0], 0) :: (62, .ireturn, 1, [], 0) :: []
def c176_0 : List JE := (0, .aload_n 0, 1, [], 0) :: (1, .getfield 60, 3, [11, 9, 1239, 0], 0) :: (4, .ifCond .ne 6, 3, [10], 0) :: (7, .bipush (-5), 2, [], 0) :: (9, .ireturn, 1, [], 0) :: c176_10
/-! 177 SueOrSettle.redo()I -/
def c177_19 : List JE := (19, .aload_n 0, 1, [], 0) :: (20, .aload_n 0, 1, [], 0) :: (21, .getfield 56, 3, [11, 8, 1238, 0], 0) :: (24, .iconst 3, 1, [], 0) :: (25, .aload_n 0, 1, [], 0) :: (26, .getfield 60, 3, [11, 9, 1239, 0], 0) :: (29, .imul, 1, [], 0) :: (30, .iaload, 1, [], 0) :: (31, .aload_n 0, 1, [], 0) :: (32, .getfield 56, 3, [11, 8, 1238, 0], 0) :: (35, .iconst 3, 1, [], 0) :: (36, .aload_n 0, 1, [], 0) :: (37, .getfield 60, 3, [11, 9, 1239, 0], 0) :: (40, .imul, 1, [], 0) :: (41, .iconst 2, 1, [], 0) :: (42, .iadd, 1, [], 0) :: (43, .iaload, 1, [], 0) :: (44, .invokevirtual 236, 3, [5, 2, 230, 11, 3176, 3178, 22, 1001], 0) :: (47, .aload_n 0, 1, [], 0) :: (48, .dup, 1, [], 0) :: (49, .getfield 60, 3, [11, 9, 1239, 0], 0) :: (52, .iconst 1, 1, [], 0) :: (53, .iadd, 1, [], 0) :: (54, .putfield 60, 3, [11, 9, 1239, 0], 0) :: (57, .aload_n 0, 1, [], 0) :: (58, .dup, 1, [], 0) :: (59, .getfield 63, 3, [11, 10, 2000, 0], 0) :: (62, .iconst 1, 1, [], 0) :: (63, .isub, 1, [], 0) :: (64, .putfield 63, 3, [11, 10, 2000, 0], 0) :: (67, .aload_n 0, 1, [], 0) :: (68, .getfield 63, 3, [11, 10, 2000, 0], 0) :: (71, .ireturn, 1, [], 0) :: []
def c177_16 : List JE := (16, .bipush (-5), 2, [], 0) :: (18, .ireturn, 1, [], 0) :: c177_19
def c177_0 : List JE := (0, .aload_n 0, 1, [], 0) :: (1, .getfield 63, 3, [11, 10, 2000, 0], 0) :: (4, .ifCond .eq 12, 3, [16], 0) :: (7, .aload_n 0, 1, [], 0) :: (8, .getfield 60, 3, [11, 9, 1239, 0], 0) :: (11, .bipush 40, 2, [], 0) :: (13, .if_icmp .lt 6, 3, [19], 0) :: c177_16
/-! 178 SueOrSettle.feeling(II)I -/
def c178_76 : List JE := (76, .invokevirtual 239, 3, [5, 3, 225, 11, 3188, 3190, 23, 1001], 0) :: (79, .aastore, 1, [25, 0], 0) :: (80, .aload_n 0, 1, [], 0) :: (81, .dup, 1, [], 0) :: (82, .getfield 53, 3, [11, 7, 1237, 0], 0) :: (85, .iconst 1, 1, [], 0) :: (86, .iadd, 1, [], 0) :: (87, .putfield 53, 3, [11, 7, 1237, 0], 0) :: (90, .aload_n 0, 1, [], 0) :: (91, .getfield 53, 3, [11, 7, 1237, 0], 0) :: (94, .iconst 1, 1, [], 0) :: (95, .isub, 1, [], 0) :: (96, .ireturn, 1, [], 0) :: []
def c178_75 : List JE := (75, .iconst 0, 1, [], 0) :: c178_76
def c178_53 : List JE := (53, .aload_n 0, 1, [], 0) :: (54, .getfield 49, 3, [11, 6, 1236, 0], 0) :: (57, .aload_n 0, 1, [], 0) :: (58, .getfield 53, 3, [11, 7, 1237, 0], 0) :: (61, .aload_n 0, 1, [], 0) :: (62, .iload_n 1, 1, [], 0) :: (63, .aload_n 0, 1, [], 0) :: (64, .getfield 53, 3, [11, 7, 1237, 0], 0) :: (67, .iload_n 3, 1, [], 0) :: (68, .ifCond .eq 7, 3, [75], 0) :: (71, .iload_n 2, 1, [], 0) :: (72, .goto 4, 3, [76], 0) :: c178_75
def c178_41 : List JE := (41, .aload_n 0, 1, [], 0) :: (42, .getfield 53, 3, [11, 7, 1237, 0], 0) :: (45, .bipush 20, 2, [], 0) :: (47, .if_icmp .lt 6, 3, [53], 0) :: (50, .bipush (-3), 2, [], 0) :: (52, .ireturn, 1, [], 0) :: c178_53
def c178_39 : List JE := (39, .iconst (-1), 1, [], 0) :: (40, .ireturn, 1, [], 0) :: c178_41
def c178_15 : List JE := (15, .istore_n 3, 1, [], 0) :: (16, .iload_n 1, 1, [], 0) :: (17, .ifCond .lt 22, 3, [39], 0) :: (20, .iload_n 1, 1, [], 0) :: (21, .iconst 5, 1, [], 0) :: (22, .if_icmp .gt 17, 3, [39], 0) :: (25, .iload_n 3, 1, [], 0) :: (26, .ifCond .eq 15, 3, [41], 0) :: (29, .iload_n 2, 1, [], 0) :: (30, .ifCond .lt 9, 3, [39], 0) :: (33, .iload_n 2, 1, [], 0) :: (34, .bipush 100, 2, [], 0) :: (36, .if_icmp .le 5, 3, [41], 0) :: c178_39
def c178_14 : List JE := (14, .iconst 0, 1, [], 0) :: c178_15
def c178_10 : List JE := (10, .iconst 1, 1, [], 0) :: (11, .goto 4, 3, [15], 0) :: c178_14
def c178_0 : List JE := (0, .iload_n 1, 1, [], 0) :: (1, .iconst 4, 1, [], 0) :: (2, .if_icmp .eq 8, 3, [10], 0) :: (5, .iload_n 1, 1, [], 0) :: (6, .iconst 5, 1, [], 0) :: (7, .if_icmp .ne 7, 3, [14], 0) :: c178_10
/-! 179 SueOrSettle.step(II)I -/
def c179_53 : List JE := (53, .ireturn, 1, [], 0) :: []
def c179_51 : List JE := (51, .bipush (-3), 2, [], 0) :: c179_53
def c179_26 : List JE := (26, .aload_n 0, 1, [], 0) :: (27, .getfield 36, 3, [11, 4, 1234, 0], 0) :: (30, .invokevirtual 243, 3, [5, 0, 89, 7, 4006, 4007, 4008, 1004], 0) :: (33, .ifCond .eq 18, 3, [51], 0) :: (36, .aload_n 0, 1, [], 0) :: (37, .getfield 36, 3, [11, 4, 1234, 0], 0) :: (40, .iload_n 1, 1, [], 0) :: (41, .bipush 10, 2, [], 0) :: (43, .iload_n 2, 1, [], 0) :: (44, .imul, 1, [], 0) :: (45, .invokevirtual 245, 3, [5, 2, 90, 7, 4010, 4011, 4012, 1004], 0) :: (48, .goto 5, 3, [53], 0) :: c179_51
def c179_24 : List JE := (24, .iconst (-1), 1, [], 0) :: (25, .ireturn, 1, [], 0) :: c179_26
def c179_0 : List JE := (0, .iload_n 1, 1, [], 0) :: (1, .sipush (-9999), 3, [], 0) :: (4, .if_icmp .lt 20, 3, [24], 0) :: (7, .iload_n 1, 1, [], 0) :: (8, .sipush 9999, 3, [], 0) :: (11, .if_icmp .gt 13, 3, [24], 0) :: (14, .iload_n 2, 1, [], 0) :: (15, .ifCond .lt 9, 3, [24], 0) :: (18, .iload_n 2, 1, [], 0) :: (19, .bipush 9, 2, [], 0) :: (21, .if_icmp .le 5, 3, [26], 0) :: c179_24
/-! 180 SueOrSettle.counts(II)I -/
def c180_27 : List JE := (27, .aload_n 3, 1, [], 0) :: (28, .iload_n 2, 1, [], 0) :: (29, .invokevirtual 252, 3, [9, 1], 0) :: (32, .ireturn, 1, [], 0) :: []
def c180_24 : List JE := (24, .ldc 194, 2, [3116], (-2000000000)) :: (26, .ireturn, 1, [], 0) :: c180_27
def c180_0 : List JE := (0, .aload_n 0, 1, [], 0) :: (1, .iload_n 1, 1, [], 0) :: (2, .invokevirtual 248, 3, [5, 1, 220, 11, 4018, 4020, 24, 1001], 0) :: (5, .astore_n 3, 1, [], 0) :: (6, .aload_n 3, 1, [], 0) :: (7, .ifnull 17, 3, [24], 0) :: (10, .iload_n 2, 1, [], 0) :: (11, .sipush (-9999), 3, [], 0) :: (14, .if_icmp .lt 10, 3, [24], 0) :: (17, .iload_n 2, 1, [], 0) :: (18, .sipush 9999, 3, [], 0) :: (21, .if_icmp .le 6, 3, [27], 0) :: c180_24
/-! 181 SueOrSettle.best(III)J -/
def c181_73 : List JE := (73, .aload_n 0, 1, [], 0) :: (74, .aload 4, 2, [], 0) :: (76, .aload 5, 2, [], 0) :: (78, .lload 6, 2, [], 0) :: (80, .iload_n 3, 1, [], 0) :: (81, .invokevirtual 264, 3, [5, 4, 227, 11, 4098, 4100, 30, 1001], 0) :: (84, .lreturn, 1, [], 0) :: []
def c181_47 : List JE := (47, .aload 4, 2, [], 0) :: (49, .aload_n 0, 1, [], 0) :: (50, .getfield 10, 3, [11, 0, 1230, 0], 0) :: (53, .aload 5, 2, [], 0) :: (55, .iconst 0, 1, [], 0) :: (56, .invokevirtual 257, 3, [5, 3, 47, 4, 4051, 4052, 4053, 1011], 0) :: (59, .lstore 6, 2, [], 0) :: (61, .iload_n 3, 1, [], 0) :: (62, .iconst 2, 1, [], 0) :: (63, .if_icmp .ne 10, 3, [73], 0) :: (66, .aload 4, 2, [], 0) :: (68, .invokevirtual 261, 3, [5, 0, 39, 4, 4093, 4094, 4095, 1011], 0) :: (71, .lconst 1, 1, [], 0) :: (72, .lreturn, 1, [], 0) :: c181_73
def c181_43 : List JE := (43, .ldc2_w 255, 3, [4050], (-9223372036854775808)) :: (46, .lreturn, 1, [], 0) :: c181_47
def c181_0 : List JE := (0, .aload_n 0, 1, [], 0) :: (1, .iload_n 1, 1, [], 0) :: (2, .invokevirtual 191, 3, [5, 1, 219, 11, 3112, 3114, 21, 1001], 0) :: (5, .astore 4, 2, [], 0) :: (7, .aload_n 0, 1, [], 0) :: (8, .iload_n 2, 1, [], 0) :: (9, .invokevirtual 248, 3, [5, 1, 220, 11, 4018, 4020, 24, 1001], 0) :: (12, .astore 5, 2, [], 0) :: (14, .aload 4, 2, [], 0) :: (16, .ifnull 27, 3, [43], 0) :: (19, .aload 5, 2, [], 0) :: (21, .ifnull 22, 3, [43], 0) :: (24, .iload_n 3, 1, [], 0) :: (25, .ifCond .lt 18, 3, [43], 0) :: (28, .iload_n 3, 1, [], 0) :: (29, .iconst 2, 1, [], 0) :: (30, .if_icmp .gt 13, 3, [43], 0) :: (33, .aload_n 0, 1, [], 0) :: (34, .getfield 10, 3, [11, 0, 1230, 0], 0) :: (37, .invokevirtual 131, 3, [5, 0, 153, 10, 2106, 2107, 2108, 1002], 0) :: (40, .ifCond .ne 7, 3, [47], 0) :: c181_43
/-! 182 SueOrSettle.plan(III)I -/
def c182_56 : List JE := (56, .iload 5, 2, [], 0) :: (58, .ireturn, 1, [], 0) :: []
def c182_37 : List JE := (37, .aload 4, 2, [], 0) :: (39, .iload_n 2, 1, [], 0) :: (40, .invokevirtual 268, 3, [5, 1, 36, 4, 4131, 4132, 4133, 1011], 0) :: (43, .istore 5, 2, [], 0) :: (45, .iload_n 3, 1, [], 0) :: (46, .ifCond .lt 10, 3, [56], 0) :: (49, .aload 4, 2, [], 0) :: (51, .iload_n 2, 1, [], 0) :: (52, .iload_n 3, 1, [], 0) :: (53, .invokevirtual 271, 3, [5, 2, 37, 4, 4135, 4136, 4137, 1011], 0) :: c182_56
def c182_35 : List JE := (35, .iconst (-1), 1, [], 0) :: (36, .ireturn, 1, [], 0) :: c182_37
def c182_29 : List JE := (29, .invokevirtual 208, 3, [5, 2, 26, 4, 3130, 3131, 3132, 1011], 0) :: (32, .ifCond .ne 5, 3, [37], 0) :: c182_35
def c182_28 : List JE := (28, .iload_n 3, 1, [], 0) :: c182_29
def c182_0 : List JE := (0, .aload_n 0, 1, [], 0) :: (1, .iload_n 1, 1, [], 0) :: (2, .invokevirtual 191, 3, [5, 1, 219, 11, 3112, 3114, 21, 1001], 0) :: (5, .astore 4, 2, [], 0) :: (7, .aload 4, 2, [], 0) :: (9, .ifnull 26, 3, [35], 0) :: (12, .iload_n 3, 1, [], 0) :: (13, .iconst (-1), 1, [], 0) :: (14, .if_icmp .lt 21, 3, [35], 0) :: (17, .aload 4, 2, [], 0) :: (19, .iload_n 2, 1, [], 0) :: (20, .iload_n 3, 1, [], 0) :: (21, .ifCond .ge 7, 3, [28], 0) :: (24, .iconst 0, 1, [], 0) :: (25, .goto 4, 3, [29], 0) :: c182_28
/-! 183 SueOrSettle.judge(III)J -/
def c183_45 : List JE := (45, .aload_n 0, 1, [], 0) :: (46, .aload 4, 2, [], 0) :: (48, .aload 5, 2, [], 0) :: (50, .aload 4, 2, [], 0) :: (52, .aload_n 0, 1, [], 0) :: (53, .getfield 10, 3, [11, 0, 1230, 0], 0) :: (56, .aload 5, 2, [], 0) :: (58, .invokevirtual 274, 3, [5, 2, 48, 4, 4143, 4144, 4145, 1011], 0) :: (61, .iload_n 3, 1, [], 0) :: (62, .invokevirtual 264, 3, [5, 4, 227, 11, 4098, 4100, 30, 1001], 0) :: (65, .lreturn, 1, [], 0) :: []
def c183_41 : List JE := (41, .ldc2_w 255, 3, [4050], (-9223372036854775808)) :: (44, .lreturn, 1, [], 0) :: c183_45
def c183_0 : List JE := (0, .aload_n 0, 1, [], 0) :: (1, .iload_n 1, 1, [], 0) :: (2, .invokevirtual 191, 3, [5, 1, 219, 11, 3112, 3114, 21, 1001], 0) :: (5, .astore 4, 2, [], 0) :: (7, .aload_n 0, 1, [], 0) :: (8, .iload_n 2, 1, [], 0) :: (9, .invokevirtual 248, 3, [5, 1, 220, 11, 4018, 4020, 24, 1001], 0) :: (12, .astore 5, 2, [], 0) :: (14, .aload 4, 2, [], 0) :: (16, .ifnull 25, 3, [41], 0) :: (19, .aload 5, 2, [], 0) :: (21, .ifnull 20, 3, [41], 0) :: (24, .iload_n 3, 1, [], 0) :: (25, .invokestatic 156, 3, [0, 1, 221, 2168, 2169, 1001], 0) :: (28, .ifCond .eq 13, 3, [41], 0) :: (31, .aload_n 0, 1, [], 0) :: (32, .getfield 10, 3, [11, 0, 1230, 0], 0) :: (35, .invokevirtual 131, 3, [5, 0, 153, 10, 2106, 2107, 2108, 1002], 0) :: (38, .ifCond .ne 7, 3, [45], 0) :: c183_41
/-! 184 SueOrSettle.shortOf(II)I -/
def c184_49 : List JE := (49, .ireturn, 1, [], 0) :: []
def c184_47 : List JE := (47, .bipush (-4), 2, [], 0) :: c184_49
def c184_24 : List JE := (24, .aload_n 0, 1, [], 0) :: (25, .getfield 10, 3, [11, 0, 1230, 0], 0) :: (28, .invokevirtual 131, 3, [5, 0, 153, 10, 2106, 2107, 2108, 1002], 0) :: (31, .ifCond .eq 16, 3, [47], 0) :: (34, .aload_n 3, 1, [], 0) :: (35, .aload_n 0, 1, [], 0) :: (36, .getfield 10, 3, [11, 0, 1230, 0], 0) :: (39, .aload 4, 2, [], 0) :: (41, .invokevirtual 278, 3, [5, 2, 56, 4, 4155, 4156, 4157, 1011], 0) :: (44, .goto 5, 3, [49], 0) :: c184_47
def c184_22 : List JE := (22, .iconst (-1), 1, [], 0) :: (23, .ireturn, 1, [], 0) :: c184_24
def c184_0 : List JE := (0, .aload_n 0, 1, [], 0) :: (1, .iload_n 1, 1, [], 0) :: (2, .invokevirtual 191, 3, [5, 1, 219, 11, 3112, 3114, 21, 1001], 0) :: (5, .astore_n 3, 1, [], 0) :: (6, .aload_n 0, 1, [], 0) :: (7, .iload_n 2, 1, [], 0) :: (8, .invokevirtual 248, 3, [5, 1, 220, 11, 4018, 4020, 24, 1001], 0) :: (11, .astore 4, 2, [], 0) :: (13, .aload_n 3, 1, [], 0) :: (14, .ifnull 8, 3, [22], 0) :: (17, .aload 4, 2, [], 0) :: (19, .ifnonnull 5, 3, [24], 0) :: c184_22
/-! 185 SueOrSettle.fork(IIII)J -/
def c185_44 : List JE := (44, .aload 5, 2, [], 0) :: (46, .aload_n 0, 1, [], 0) :: (47, .getfield 10, 3, [11, 0, 1230, 0], 0) :: (50, .aload_n 0, 1, [], 0) :: (51, .getfield 45, 3, [11, 5, 1235, 0], 0) :: (54, .iconst 0, 1, [], 0) :: (55, .invokevirtual 257, 3, [5, 3, 47, 4, 4051, 4052, 4053, 1011], 0) :: (58, .pop2, 1, [], 0) :: (59, .aload 5, 2, [], 0) :: (61, .aload_n 0, 1, [], 0) :: (62, .getfield 10, 3, [11, 0, 1230, 0], 0) :: (65, .iload_n 2, 1, [], 0) :: (66, .iload_n 3, 1, [], 0) :: (67, .invokevirtual 282, 3, [5, 3, 59, 4, 4172, 4173, 4174, 1011], 0) :: (70, .ldc2_w 286, 3, [4103], 100) :: (73, .aload 5, 2, [], 0) :: (75, .aload_n 0, 1, [], 0) :: (76, .getfield 10, 3, [11, 0, 1230, 0], 0) :: (79, .iload_n 2, 1, [], 0) :: (80, .invokevirtual 288, 3, [5, 2, 58, 4, 4180, 4177, 4178, 1011], 0) :: (83, .lmul, 1, [], 0) :: (84, .iload 4, 2, [], 0) :: (86, .invokestatic 163, 3, [0, 3, 223, 2179, 2180, 1001], 0) :: (89, .lreturn, 1, [], 0) :: []
def c185_40 : List JE := (40, .ldc2_w 255, 3, [4050], (-9223372036854775808)) :: (43, .lreturn, 1, [], 0) :: c185_44
def c185_0 : List JE := (0, .aload_n 0, 1, [], 0) :: (1, .iload_n 1, 1, [], 0) :: (2, .invokevirtual 191, 3, [5, 1, 219, 11, 3112, 3114, 21, 1001], 0) :: (5, .astore 5, 2, [], 0) :: (7, .aload 5, 2, [], 0) :: (9, .ifnull 31, 3, [40], 0) :: (12, .aload 5, 2, [], 0) :: (14, .iload_n 2, 1, [], 0) :: (15, .iload_n 3, 1, [], 0) :: (16, .invokevirtual 208, 3, [5, 2, 26, 4, 3130, 3131, 3132, 1011], 0) :: (19, .ifCond .eq 21, 3, [40], 0) :: (22, .iload 4, 2, [], 0) :: (24, .invokestatic 156, 3, [0, 1, 221, 2168, 2169, 1001], 0) :: (27, .ifCond .eq 13, 3, [40], 0) :: (30, .aload_n 0, 1, [], 0) :: (31, .getfield 10, 3, [11, 0, 1230, 0], 0) :: (34, .invokevirtual 131, 3, [5, 0, 153, 10, 2106, 2107, 2108, 1002], 0) :: (37, .ifCond .ne 7, 3, [44], 0) :: c185_40
/-! 186 SueOrSettle.tell(II)I -/
def c186_24 : List JE := (24, .ireturn, 1, [], 0) :: []
def c186_19 : List JE := (19, .aload_n 3, 1, [], 0) :: (20, .iload_n 2, 1, [], 0) :: (21, .invokevirtual 292, 3, [5, 1, 55, 4, 4185, 4186, 4187, 1011], 0) :: c186_24
def c186_15 : List JE := (15, .iconst (-1), 1, [], 0) :: (16, .goto 8, 3, [24], 0) :: c186_19
def c186_0 : List JE := (0, .aload_n 0, 1, [], 0) :: (1, .iload_n 1, 1, [], 0) :: (2, .invokevirtual 191, 3, [5, 1, 219, 11, 3112, 3114, 21, 1001], 0) :: (5, .astore_n 3, 1, [], 0) :: (6, .aload_n 3, 1, [], 0) :: (7, .ifnull 8, 3, [15], 0) :: (10, .iload_n 2, 1, [], 0) :: (11, .iconst (-1), 1, [], 0) :: (12, .if_icmp .ge 7, 3, [19], 0) :: c186_15
/-! 187 SueOrSettle.ask(III)J -/
def c187_100 : List JE := (100, .lstore 7, 2, [], 0) :: (102, .lload 7, 2, [], 0) :: (104, .lload 5, 2, [], 0) :: (106, .lsub, 1, [], 0) :: (107, .ldc2_w 286, 3, [4103], 100) :: (110, .aload_n 0, 1, [], 0) :: (111, .getfield 10, 3, [11, 0, 1230, 0], 0) :: (114, .getfield 135, 3, [10, 1, 1034, 0], 0) :: (117, .lmul, 1, [], 0) :: (118, .iload_n 3, 1, [], 0) :: (119, .invokestatic 163, 3, [0, 3, 223, 2179, 2180, 1001], 0) :: (122, .lreturn, 1, [], 0) :: []
def c187_85 : List JE := (85, .aload 4, 2, [], 0) :: (87, .aload_n 0, 1, [], 0) :: (88, .getfield 10, 3, [11, 0, 1230, 0], 0) :: (91, .aload_n 0, 1, [], 0) :: (92, .getfield 45, 3, [11, 5, 1235, 0], 0) :: (95, .iload_n 2, 1, [], 0) :: (96, .iconst (-1), 1, [], 0) :: (97, .invokevirtual 298, 3, [5, 4, 50, 4, 4193, 4194, 4195, 1011], 0) :: c187_100
def c187_49 : List JE := (49, .aload 4, 2, [], 0) :: (51, .aload_n 0, 1, [], 0) :: (52, .getfield 10, 3, [11, 0, 1230, 0], 0) :: (55, .aload_n 0, 1, [], 0) :: (56, .getfield 45, 3, [11, 5, 1235, 0], 0) :: (59, .iconst 0, 1, [], 0) :: (60, .invokevirtual 257, 3, [5, 3, 47, 4, 4051, 4052, 4053, 1011], 0) :: (63, .lstore 5, 2, [], 0) :: (65, .iload_n 2, 1, [], 0) :: (66, .ifCond .ge 19, 3, [85], 0) :: (69, .aload 4, 2, [], 0) :: (71, .aload_n 0, 1, [], 0) :: (72, .getfield 10, 3, [11, 0, 1230, 0], 0) :: (75, .aload_n 0, 1, [], 0) :: (76, .getfield 45, 3, [11, 5, 1235, 0], 0) :: (79, .invokevirtual 295, 3, [5, 2, 51, 4, 4116, 4117, 4118, 1011], 0) :: (82, .goto 18, 3, [100], 0) :: c187_85
def c187_45 : List JE := (45, .ldc2_w 255, 3, [4050], (-9223372036854775808)) :: (48, .lreturn, 1, [], 0) :: c187_49
def c187_28 : List JE := (28, .iload_n 3, 1, [], 0) :: (29, .invokestatic 156, 3, [0, 1, 221, 2168, 2169, 1001], 0) :: (32, .ifCond .eq 13, 3, [45], 0) :: (35, .aload_n 0, 1, [], 0) :: (36, .getfield 10, 3, [11, 0, 1230, 0], 0) :: (39, .invokevirtual 131, 3, [5, 0, 153, 10, 2106, 2107, 2108, 1002], 0) :: (42, .ifCond .ne 7, 3, [49], 0) :: c187_45
def c187_0 : List JE := (0, .aload_n 0, 1, [], 0) :: (1, .iload_n 1, 1, [], 0) :: (2, .invokevirtual 191, 3, [5, 1, 219, 11, 3112, 3114, 21, 1001], 0) :: (5, .astore 4, 2, [], 0) :: (7, .aload 4, 2, [], 0) :: (9, .ifnull 36, 3, [45], 0) :: (12, .iload_n 2, 1, [], 0) :: (13, .iconst (-1), 1, [], 0) :: (14, .if_icmp .eq 14, 3, [28], 0) :: (17, .aload_n 0, 1, [], 0) :: (18, .getfield 10, 3, [11, 0, 1230, 0], 0) :: (21, .iload_n 2, 1, [], 0) :: (22, .invokevirtual 102, 3, [5, 1, 140, 10, 2061, 2062, 2063, 1002], 0) :: (25, .ifCond .eq 20, 3, [45], 0) :: c187_28
/-! 188 SueOrSettle.together(IIII)J -/
def c188_61 : List JE := (61, .aload 5, 2, [], 0) :: (63, .aload_n 0, 1, [], 0) :: (64, .getfield 10, 3, [11, 0, 1230, 0], 0) :: (67, .aload_n 0, 1, [], 0) :: (68, .getfield 45, 3, [11, 5, 1235, 0], 0) :: (71, .iload_n 2, 1, [], 0) :: (72, .iload_n 3, 1, [], 0) :: (73, .invokevirtual 298, 3, [5, 4, 50, 4, 4193, 4194, 4195, 1011], 0) :: (76, .lstore 6, 2, [], 0) :: (78, .aload 5, 2, [], 0) :: (80, .aload_n 0, 1, [], 0) :: (81, .getfield 10, 3, [11, 0, 1230, 0], 0) :: (84, .aload_n 0, 1, [], 0) :: (85, .getfield 45, 3, [11, 5, 1235, 0], 0) :: (88, .iload_n 2, 1, [], 0) :: (89, .iconst (-1), 1, [], 0) :: (90, .invokevirtual 298, 3, [5, 4, 50, 4, 4193, 4194, 4195, 1011], 0) :: (93, .lstore 8, 2, [], 0) :: (95, .aload 5, 2, [], 0) :: (97, .aload_n 0, 1, [], 0) :: (98, .getfield 10, 3, [11, 0, 1230, 0], 0) :: (101, .aload_n 0, 1, [], 0) :: (102, .getfield 45, 3, [11, 5, 1235, 0], 0) :: (105, .iload_n 3, 1, [], 0) :: (106, .iconst (-1), 1, [], 0) :: (107, .invokevirtual 298, 3, [5, 4, 50, 4, 4193, 4194, 4195, 1011], 0) :: (110, .lstore 10, 2, [], 0) :: (112, .aload 5, 2, [], 0) :: (114, .aload_n 0, 1, [], 0) :: (115, .getfield 10, 3, [11, 0, 1230, 0], 0) :: (118, .aload_n 0, 1, [], 0) :: (119, .getfield 45, 3, [11, 5, 1235, 0], 0) :: (122, .iconst 0, 1, [], 0) :: (123, .invokevirtual 257, 3, [5, 3, 47, 4, 4051, 4052, 4053, 1011], 0) :: (126, .lstore 12, 2, [], 0) :: (128, .lload 6, 2, [], 0) :: (130, .lload 8, 2, [], 0) :: (132, .lsub, 1, [], 0) :: (133, .lload 10, 2, [], 0) :: (135, .lsub, 1, [], 0) :: (136, .lload 12, 2, [], 0) :: (138, .ladd, 1, [], 0) :: (139, .ldc2_w 286, 3, [4103], 100) :: (142, .aload_n 0, 1, [], 0) :: (143, .getfield 10, 3, [11, 0, 1230, 0], 0) :: (146, .getfield 135, 3, [10, 1, 1034, 0], 0) :: (149, .lmul, 1, [], 0) :: (150, .iload 4, 2, [], 0) :: (152, .invokestatic 163, 3, [0, 3, 223, 2179, 2180, 1001], 0) :: (155, .lreturn, 1, [], 0) :: []
def c188_57 : List JE := (57, .ldc2_w 255, 3, [4050], (-9223372036854775808)) :: (60, .lreturn, 1, [], 0) :: c188_61
def c188_0 : List JE := (0, .aload_n 0, 1, [], 0) :: (1, .iload_n 1, 1, [], 0) :: (2, .invokevirtual 191, 3, [5, 1, 219, 11, 3112, 3114, 21, 1001], 0) :: (5, .astore 5, 2, [], 0) :: (7, .aload 5, 2, [], 0) :: (9, .ifnull 48, 3, [57], 0) :: (12, .aload_n 0, 1, [], 0) :: (13, .getfield 10, 3, [11, 0, 1230, 0], 0) :: (16, .iload_n 2, 1, [], 0) :: (17, .invokevirtual 102, 3, [5, 1, 140, 10, 2061, 2062, 2063, 1002], 0) :: (20, .ifCond .eq 37, 3, [57], 0) :: (23, .aload_n 0, 1, [], 0) :: (24, .getfield 10, 3, [11, 0, 1230, 0], 0) :: (27, .iload_n 3, 1, [], 0) :: (28, .invokevirtual 102, 3, [5, 1, 140, 10, 2061, 2062, 2063, 1002], 0) :: (31, .ifCond .eq 26, 3, [57], 0) :: (34, .iload_n 2, 1, [], 0) :: (35, .iload_n 3, 1, [], 0) :: (36, .if_icmp .eq 21, 3, [57], 0) :: (39, .iload 4, 2, [], 0) :: (41, .invokestatic 156, 3, [0, 1, 221, 2168, 2169, 1001], 0) :: (44, .ifCond .eq 13, 3, [57], 0) :: (47, .aload_n 0, 1, [], 0) :: (48, .getfield 10, 3, [11, 0, 1230, 0], 0) :: (51, .invokevirtual 131, 3, [5, 0, 153, 10, 2106, 2107, 2108, 1002], 0) :: (54, .ifCond .ne 7, 3, [61], 0) :: c188_57
/-! 189 SueOrSettle.first(I)I -/
def c189_106 : List JE := (106, .iload_n 3, 1, [], 0) :: (107, .ireturn, 1, [], 0) :: []
def c189_100 : List JE := (100, .iinc 6 1, 3, [], 0) :: (103, .goto (-47), 3, [56], 0) :: c189_106
def c189_56 : List JE := (56, .iload 6, 2, [], 0) :: (58, .aload_n 0, 1, [], 0) :: (59, .getfield 10, 3, [11, 0, 1230, 0], 0) :: (62, .getfield 95, 3, [10, 0, 1032, 0], 0) :: (65, .if_icmp .ge 41, 3, [106], 0) :: (68, .aload_n 2, 1, [], 0) :: (69, .aload_n 0, 1, [], 0) :: (70, .getfield 10, 3, [11, 0, 1230, 0], 0) :: (73, .aload_n 0, 1, [], 0) :: (74, .getfield 45, 3, [11, 5, 1235, 0], 0) :: (77, .iload 6, 2, [], 0) :: (79, .iconst (-1), 1, [], 0) :: (80, .invokevirtual 298, 3, [5, 4, 50, 4, 4193, 4194, 4195, 1011], 0) :: (83, .lstore 7, 2, [], 0) :: (85, .lload 7, 2, [], 0) :: (87, .lload 4, 2, [], 0) :: (89, .lcmp, 1, [], 0) :: (90, .ifCond .le 10, 3, [100], 0) :: (93, .lload 7, 2, [], 0) :: (95, .lstore 4, 2, [], 0) :: (97, .iload 6, 2, [], 0) :: (99, .istore_n 3, 1, [], 0) :: c189_100
def c189_35 : List JE := (35, .iconst 0, 1, [], 0) :: (36, .istore_n 3, 1, [], 0) :: (37, .aload_n 2, 1, [], 0) :: (38, .aload_n 0, 1, [], 0) :: (39, .getfield 10, 3, [11, 0, 1230, 0], 0) :: (42, .aload_n 0, 1, [], 0) :: (43, .getfield 45, 3, [11, 5, 1235, 0], 0) :: (46, .iconst 0, 1, [], 0) :: (47, .iconst (-1), 1, [], 0) :: (48, .invokevirtual 298, 3, [5, 4, 50, 4, 4193, 4194, 4195, 1011], 0) :: (51, .lstore 4, 2, [], 0) :: (53, .iconst 1, 1, [], 0) :: (54, .istore 6, 2, [], 0) :: c189_56
def c189_22 : List JE := (22, .aload_n 0, 1, [], 0) :: (23, .getfield 10, 3, [11, 0, 1230, 0], 0) :: (26, .invokevirtual 131, 3, [5, 0, 153, 10, 2106, 2107, 2108, 1002], 0) :: (29, .ifCond .ne 6, 3, [35], 0) :: (32, .bipush (-4), 2, [], 0) :: (34, .ireturn, 1, [], 0) :: c189_35
def c189_20 : List JE := (20, .iconst (-1), 1, [], 0) :: (21, .ireturn, 1, [], 0) :: c189_22
def c189_0 : List JE := (0, .aload_n 0, 1, [], 0) :: (1, .iload_n 1, 1, [], 0) :: (2, .invokevirtual 191, 3, [5, 1, 219, 11, 3112, 3114, 21, 1001], 0) :: (5, .astore_n 2, 1, [], 0) :: (6, .aload_n 2, 1, [], 0) :: (7, .ifnull 13, 3, [20], 0) :: (10, .aload_n 0, 1, [], 0) :: (11, .getfield 10, 3, [11, 0, 1230, 0], 0) :: (14, .getfield 95, 3, [10, 0, 1032, 0], 0) :: (17, .ifCond .ne 5, 3, [22], 0) :: c189_20
/-! 190 SueOrSettle.edge(III)I -/
def c190_103 : List JE := (103, .ireturn, 1, [], 0) :: []
def c190_78 : List JE := (78, .aload_n 0, 1, [], 0) :: (79, .aload 4, 2, [], 0) :: (81, .iload_n 2, 1, [], 0) :: (82, .bipush 100, 2, [], 0) :: (84, .idiv, 1, [], 0) :: (85, .iload_n 2, 1, [], 0) :: (86, .bipush 10, 2, [], 0) :: (88, .idiv, 1, [], 0) :: (89, .bipush 10, 2, [], 0) :: (91, .irem, 1, [], 0) :: (92, .iload_n 2, 1, [], 0) :: (93, .bipush 10, 2, [], 0) :: (95, .irem, 1, [], 0) :: (96, .invokestatic 117, 3, [0, 3, 147, 2086, 2055, 1002], 0) :: (99, .iload_n 3, 1, [], 0) :: (100, .invokevirtual 305, 3, [5, 3, 231, 11, 4211, 4213, 34, 1001], 0) :: c190_103
def c190_65 : List JE := (65, .aload 4, 2, [], 0) :: (67, .getfield 302, 3, [4, 1, 3045, 0], 0) :: (70, .ifCond .ge 8, 3, [78], 0) :: (73, .bipush (-2), 2, [], 0) :: (75, .goto 28, 3, [103], 0) :: c190_78
def c190_52 : List JE := (52, .aload_n 0, 1, [], 0) :: (53, .getfield 10, 3, [11, 0, 1230, 0], 0) :: (56, .invokevirtual 131, 3, [5, 0, 153, 10, 2106, 2107, 2108, 1002], 0) :: (59, .ifCond .ne 6, 3, [65], 0) :: (62, .bipush (-4), 2, [], 0) :: (64, .ireturn, 1, [], 0) :: c190_65
def c190_50 : List JE := (50, .iconst (-1), 1, [], 0) :: (51, .ireturn, 1, [], 0) :: c190_52
def c190_0 : List JE := (0, .aload_n 0, 1, [], 0) :: (1, .iload_n 1, 1, [], 0) :: (2, .invokevirtual 191, 3, [5, 1, 219, 11, 3112, 3114, 21, 1001], 0) :: (5, .astore 4, 2, [], 0) :: (7, .aload 4, 2, [], 0) :: (9, .ifnull 41, 3, [50], 0) :: (12, .iload_n 2, 1, [], 0) :: (13, .ifCond .lt 37, 3, [50], 0) :: (16, .aload_n 0, 1, [], 0) :: (17, .getfield 10, 3, [11, 0, 1230, 0], 0) :: (20, .iload_n 2, 1, [], 0) :: (21, .bipush 100, 2, [], 0) :: (23, .idiv, 1, [], 0) :: (24, .iload_n 2, 1, [], 0) :: (25, .bipush 10, 2, [], 0) :: (27, .idiv, 1, [], 0) :: (28, .bipush 10, 2, [], 0) :: (30, .irem, 1, [], 0) :: (31, .iload_n 2, 1, [], 0) :: (32, .bipush 10, 2, [], 0) :: (34, .irem, 1, [], 0) :: (35, .invokevirtual 113, 3, [5, 3, 146, 10, 2078, 2079, 2080, 1002], 0) :: (38, .ifCond .eq 12, 3, [50], 0) :: (41, .iload_n 3, 1, [], 0) :: (42, .ifCond .lt 8, 3, [50], 0) :: (45, .iload_n 3, 1, [], 0) :: (46, .iconst 1, 1, [], 0) :: (47, .if_icmp .le 5, 3, [52], 0) :: c190_50
/-! 191 SueOrSettle.edgeOf(IIII)I -/
def c191_92 : List JE := (92, .ireturn, 1, [], 0) :: []
def c191_90 : List JE := (90, .iload 6, 2, [], 0) :: c191_92
def c191_48 : List JE := (48, .aload 5, 2, [], 0) :: (50, .aload_n 0, 1, [], 0) :: (51, .getfield 10, 3, [11, 0, 1230, 0], 0) :: (54, .aload_n 0, 1, [], 0) :: (55, .getfield 45, 3, [11, 5, 1235, 0], 0) :: (58, .iconst 0, 1, [], 0) :: (59, .invokevirtual 257, 3, [5, 3, 47, 4, 4051, 4052, 4053, 1011], 0) :: (62, .pop2, 1, [], 0) :: (63, .aload 5, 2, [], 0) :: (65, .aload_n 0, 1, [], 0) :: (66, .getfield 10, 3, [11, 0, 1230, 0], 0) :: (69, .iload_n 2, 1, [], 0) :: (70, .iload_n 3, 1, [], 0) :: (71, .iload 4, 2, [], 0) :: (73, .bipush 40, 2, [], 0) :: (75, .invokevirtual 309, 3, [5, 5, 60, 4, 4224, 4225, 4226, 1011], 0) :: (78, .istore 6, 2, [], 0) :: (80, .iload 6, 2, [], 0) :: (82, .ifCond .ne 8, 3, [90], 0) :: (85, .bipush (-2), 2, [], 0) :: (87, .goto 5, 3, [92], 0) :: c191_90
def c191_35 : List JE := (35, .aload_n 0, 1, [], 0) :: (36, .getfield 10, 3, [11, 0, 1230, 0], 0) :: (39, .invokevirtual 131, 3, [5, 0, 153, 10, 2106, 2107, 2108, 1002], 0) :: (42, .ifCond .ne 6, 3, [48], 0) :: (45, .bipush (-4), 2, [], 0) :: (47, .ireturn, 1, [], 0) :: c191_48
def c191_33 : List JE := (33, .iconst (-1), 1, [], 0) :: (34, .ireturn, 1, [], 0) :: c191_35
def c191_0 : List JE := (0, .aload_n 0, 1, [], 0) :: (1, .iload_n 1, 1, [], 0) :: (2, .invokevirtual 191, 3, [5, 1, 219, 11, 3112, 3114, 21, 1001], 0) :: (5, .astore 5, 2, [], 0) :: (7, .aload 5, 2, [], 0) :: (9, .ifnull 24, 3, [33], 0) :: (12, .aload 5, 2, [], 0) :: (14, .iload_n 2, 1, [], 0) :: (15, .iload_n 3, 1, [], 0) :: (16, .invokevirtual 221, 3, [5, 2, 32, 4, 3151, 3152, 3153, 1011], 0) :: (19, .ifCond .eq 14, 3, [33], 0) :: (22, .iload 4, 2, [], 0) :: (24, .ifCond .lt 9, 3, [33], 0) :: (27, .iload 4, 2, [], 0) :: (29, .iconst 1, 1, [], 0) :: (30, .if_icmp .le 5, 3, [35], 0) :: c191_33
/-! 192 SueOrSettle.most(I)I -/
def c192_119 : List JE := (119, .iload_n 3, 1, [], 0) :: (120, .ireturn, 1, [], 0) :: []
def c192_113 : List JE := (113, .iinc 5 1, 3, [], 0) :: (116, .goto (-67), 3, [49], 0) :: c192_119
def c192_107 : List JE := (107, .iinc 6 1, 3, [], 0) :: (110, .goto (-49), 3, [61], 0) :: c192_113
def c192_61 : List JE := (61, .iload 6, 2, [], 0) :: (63, .iconst 1, 1, [], 0) :: (64, .if_icmp .gt 49, 3, [113], 0) :: (67, .aload_n 2, 1, [], 0) :: (68, .iload 5, 2, [], 0) :: (70, .invokevirtual 199, 3, [5, 1, 27, 4, 3118, 3119, 3120, 1011], 0) :: (73, .ifCond .ne 40, 3, [113], 0) :: (76, .aload_n 2, 1, [], 0) :: (77, .aload_n 0, 1, [], 0) :: (78, .getfield 10, 3, [11, 0, 1230, 0], 0) :: (81, .iload 5, 2, [], 0) :: (83, .iconst (-1), 1, [], 0) :: (84, .iload 6, 2, [], 0) :: (86, .iload 4, 2, [], 0) :: (88, .iconst 1, 1, [], 0) :: (89, .isub, 1, [], 0) :: (90, .invokevirtual 309, 3, [5, 5, 60, 4, 4224, 4225, 4226, 1011], 0) :: (93, .istore 7, 2, [], 0) :: (95, .iload 7, 2, [], 0) :: (97, .ifCond .le 10, 3, [107], 0) :: (100, .iload 7, 2, [], 0) :: (102, .istore 4, 2, [], 0) :: (104, .iload 5, 2, [], 0) :: (106, .istore_n 3, 1, [], 0) :: c192_107
def c192_49 : List JE := (49, .iload 5, 2, [], 0) :: (51, .aload_n 2, 1, [], 0) :: (52, .getfield 195, 3, [4, 0, 3043, 0], 0) :: (55, .if_icmp .ge 64, 3, [119], 0) :: (58, .iconst 0, 1, [], 0) :: (59, .istore 6, 2, [], 0) :: c192_61
def c192_25 : List JE := (25, .aload_n 2, 1, [], 0) :: (26, .aload_n 0, 1, [], 0) :: (27, .getfield 10, 3, [11, 0, 1230, 0], 0) :: (30, .aload_n 0, 1, [], 0) :: (31, .getfield 45, 3, [11, 5, 1235, 0], 0) :: (34, .iconst 0, 1, [], 0) :: (35, .invokevirtual 257, 3, [5, 3, 47, 4, 4051, 4052, 4053, 1011], 0) :: (38, .pop2, 1, [], 0) :: (39, .bipush (-2), 2, [], 0) :: (41, .istore_n 3, 1, [], 0) :: (42, .bipush 41, 2, [], 0) :: (44, .istore 4, 2, [], 0) :: (46, .iconst 0, 1, [], 0) :: (47, .istore 5, 2, [], 0) :: c192_49
def c192_12 : List JE := (12, .aload_n 0, 1, [], 0) :: (13, .getfield 10, 3, [11, 0, 1230, 0], 0) :: (16, .invokevirtual 131, 3, [5, 0, 153, 10, 2106, 2107, 2108, 1002], 0) :: (19, .ifCond .ne 6, 3, [25], 0) :: (22, .bipush (-4), 2, [], 0) :: (24, .ireturn, 1, [], 0) :: c192_25
def c192_0 : List JE := (0, .aload_n 0, 1, [], 0) :: (1, .iload_n 1, 1, [], 0) :: (2, .invokevirtual 191, 3, [5, 1, 219, 11, 3112, 3114, 21, 1001], 0) :: (5, .astore_n 2, 1, [], 0) :: (6, .aload_n 2, 1, [], 0) :: (7, .ifnonnull 5, 3, [12], 0) :: (10, .iconst (-1), 1, [], 0) :: (11, .ireturn, 1, [], 0) :: c192_12
/-! 193 SueOrSettle.doubt(IIII)I -/
def c193_88 : List JE := (88, .istore 8, 2, [], 0) :: (90, .aload_n 0, 1, [], 0) :: (91, .getfield 10, 3, [11, 0, 1230, 0], 0) :: (94, .iload 6, 2, [], 0) :: (96, .iload 7, 2, [], 0) :: (98, .invokevirtual 124, 3, [5, 2, 149, 10, 2091, 2092, 2093, 1002], 0) :: (101, .iload 8, 2, [], 0) :: (103, .ireturn, 1, [], 0) :: []
def c193_79 : List JE := (79, .aload_n 0, 1, [], 0) :: (80, .aload 5, 2, [], 0) :: (82, .iload 6, 2, [], 0) :: (84, .iload_n 3, 1, [], 0) :: (85, .invokevirtual 322, 3, [5, 3, 235, 11, 5018, 5020, 39, 1001], 0) :: c193_88
def c193_43 : List JE := (43, .iload_n 2, 1, [], 0) :: (44, .iconst 0, 1, [], 0) :: (45, .iconst 0, 1, [], 0) :: (46, .invokestatic 117, 3, [0, 3, 147, 2086, 2055, 1002], 0) :: (49, .istore 6, 2, [], 0) :: (51, .aload_n 0, 1, [], 0) :: (52, .getfield 10, 3, [11, 0, 1230, 0], 0) :: (55, .iload 6, 2, [], 0) :: (57, .invokevirtual 121, 3, [5, 1, 148, 10, 2087, 2088, 2089, 1002], 0) :: (60, .istore 7, 2, [], 0) :: (62, .iload 4, 2, [], 0) :: (64, .ifCond .ne 15, 3, [79], 0) :: (67, .aload_n 0, 1, [], 0) :: (68, .aload 5, 2, [], 0) :: (70, .iload 6, 2, [], 0) :: (72, .iload_n 3, 1, [], 0) :: (73, .invokevirtual 319, 3, [5, 3, 234, 11, 5013, 5015, 38, 1001], 0) :: (76, .goto 12, 3, [88], 0) :: c193_79
def c193_31 : List JE := (31, .aload_n 0, 1, [], 0) :: (32, .iload_n 2, 1, [], 0) :: (33, .iload_n 3, 1, [], 0) :: (34, .invokevirtual 316, 3, [5, 2, 233, 11, 5008, 5010, 37, 1001], 0) :: (37, .ifCond .eq 6, 3, [43], 0) :: (40, .bipush (-4), 2, [], 0) :: (42, .ireturn, 1, [], 0) :: c193_43
def c193_29 : List JE := (29, .iconst (-1), 1, [], 0) :: (30, .ireturn, 1, [], 0) :: c193_31
def c193_0 : List JE := (0, .aload_n 0, 1, [], 0) :: (1, .iload_n 1, 1, [], 0) :: (2, .invokevirtual 191, 3, [5, 1, 219, 11, 3112, 3114, 21, 1001], 0) :: (5, .astore 5, 2, [], 0) :: (7, .aload 5, 2, [], 0) :: (9, .ifnull 20, 3, [29], 0) :: (12, .aload_n 0, 1, [], 0) :: (13, .iload_n 2, 1, [], 0) :: (14, .iload_n 3, 1, [], 0) :: (15, .invokevirtual 313, 3, [5, 2, 232, 11, 5004, 5006, 36, 1001], 0) :: (18, .ifCond .eq 11, 3, [29], 0) :: (21, .iload 4, 2, [], 0) :: (23, .invokestatic 156, 3, [0, 1, 221, 2168, 2169, 1001], 0) :: (26, .ifCond .ne 5, 3, [31], 0) :: c193_29
/-! 194 SueOrSettle.worst(IIII)J -/
def c194_42 : List JE := (42, .iload_n 2, 1, [], 0) :: (43, .iconst 0, 1, [], 0) :: (44, .iconst 0, 1, [], 0) :: (45, .invokestatic 117, 3, [0, 3, 147, 2086, 2055, 1002], 0) :: (48, .istore 6, 2, [], 0) :: (50, .aload_n 0, 1, [], 0) :: (51, .getfield 10, 3, [11, 0, 1230, 0], 0) :: (54, .iload 6, 2, [], 0) :: (56, .invokevirtual 121, 3, [5, 1, 148, 10, 2087, 2088, 2089, 1002], 0) :: (59, .istore 7, 2, [], 0) :: (61, .aload_n 0, 1, [], 0) :: (62, .aload 5, 2, [], 0) :: (64, .iload_n 2, 1, [], 0) :: (65, .iload_n 3, 1, [], 0) :: (66, .iload 4, 2, [], 0) :: (68, .invokevirtual 325, 3, [5, 4, 237, 11, 5039, 5041, 41, 1001], 0) :: (71, .lstore 8, 2, [], 0) :: (73, .aload_n 0, 1, [], 0) :: (74, .getfield 10, 3, [11, 0, 1230, 0], 0) :: (77, .iload 6, 2, [], 0) :: (79, .iload 7, 2, [], 0) :: (81, .invokevirtual 124, 3, [5, 2, 149, 10, 2091, 2092, 2093, 1002], 0) :: (84, .lload 8, 2, [], 0) :: (86, .lreturn, 1, [], 0) :: []
def c194_38 : List JE := (38, .ldc2_w 255, 3, [4050], (-9223372036854775808)) :: (41, .lreturn, 1, [], 0) :: c194_42
def c194_0 : List JE := (0, .aload_n 0, 1, [], 0) :: (1, .iload_n 1, 1, [], 0) :: (2, .invokevirtual 191, 3, [5, 1, 219, 11, 3112, 3114, 21, 1001], 0) :: (5, .astore 5, 2, [], 0) :: (7, .aload 5, 2, [], 0) :: (9, .ifnull 29, 3, [38], 0) :: (12, .aload_n 0, 1, [], 0) :: (13, .iload_n 2, 1, [], 0) :: (14, .iload_n 3, 1, [], 0) :: (15, .invokevirtual 313, 3, [5, 2, 232, 11, 5004, 5006, 36, 1001], 0) :: (18, .ifCond .eq 20, 3, [38], 0) :: (21, .iload 4, 2, [], 0) :: (23, .invokestatic 156, 3, [0, 1, 221, 2168, 2169, 1001], 0) :: (26, .ifCond .eq 12, 3, [38], 0) :: (29, .aload_n 0, 1, [], 0) :: (30, .iload_n 2, 1, [], 0) :: (31, .iload_n 3, 1, [], 0) :: (32, .invokevirtual 316, 3, [5, 2, 233, 11, 5008, 5010, 37, 1001], 0) :: (35, .ifCond .eq 7, 3, [42], 0) :: c194_38
/-! 195 SueOrSettle.table(II)I -/
def c195_22 : List JE := (22, .aload_n 0, 1, [], 0) :: (23, .getfield 69, 3, [11, 11, 2001, 0], 0) :: (26, .iload_n 1, 1, [], 0) :: (27, .iload_n 2, 1, [], 0) :: (28, .invokevirtual 329, 3, [5, 2, 103, 9, 5048, 5049, 5050, 1006], 0) :: (31, .iload_n 1, 1, [], 0) :: (32, .iload_n 2, 1, [], 0) :: (33, .imul, 1, [], 0) :: (34, .ireturn, 1, [], 0) :: []
def c195_20 : List JE := (20, .iconst (-1), 1, [], 0) :: (21, .ireturn, 1, [], 0) :: c195_22
def c195_0 : List JE := (0, .iload_n 1, 1, [], 0) :: (1, .iconst 1, 1, [], 0) :: (2, .if_icmp .lt 18, 3, [20], 0) :: (5, .iload_n 1, 1, [], 0) :: (6, .iconst 4, 1, [], 0) :: (7, .if_icmp .gt 13, 3, [20], 0) :: (10, .iload_n 2, 1, [], 0) :: (11, .iconst 1, 1, [], 0) :: (12, .if_icmp .lt 8, 3, [20], 0) :: (15, .iload_n 2, 1, [], 0) :: (16, .iconst 4, 1, [], 0) :: (17, .if_icmp .le 5, 3, [22], 0) :: c195_20
/-! 196 SueOrSettle.cell(III)I -/
def c196_46 : List JE := (46, .aload_n 0, 1, [], 0) :: (47, .getfield 69, 3, [11, 11, 2001, 0], 0) :: (50, .iload_n 1, 1, [], 0) :: (51, .bipush 10, 2, [], 0) :: (53, .idiv, 1, [], 0) :: (54, .iload_n 1, 1, [], 0) :: (55, .bipush 10, 2, [], 0) :: (57, .irem, 1, [], 0) :: (58, .iload_n 2, 1, [], 0) :: (59, .iload_n 3, 1, [], 0) :: (60, .invokevirtual 335, 3, [5, 4, 107, 9, 5061, 5062, 5063, 1006], 0) :: (63, .ireturn, 1, [], 0) :: []
def c196_43 : List JE := (43, .ldc 194, 2, [3116], (-2000000000)) :: (45, .ireturn, 1, [], 0) :: c196_46
def c196_0 : List JE := (0, .iload_n 1, 1, [], 0) :: (1, .ifCond .lt 42, 3, [43], 0) :: (4, .aload_n 0, 1, [], 0) :: (5, .getfield 69, 3, [11, 11, 2001, 0], 0) :: (8, .iload_n 1, 1, [], 0) :: (9, .bipush 10, 2, [], 0) :: (11, .idiv, 1, [], 0) :: (12, .iload_n 1, 1, [], 0) :: (13, .bipush 10, 2, [], 0) :: (15, .irem, 1, [], 0) :: (16, .invokevirtual 332, 3, [5, 2, 105, 9, 5057, 5058, 5059, 1006], 0) :: (19, .ifCond .eq 24, 3, [43], 0) :: (22, .iload_n 2, 1, [], 0) :: (23, .ifCond .lt 20, 3, [43], 0) :: (26, .iload_n 2, 1, [], 0) :: (27, .iconst 1, 1, [], 0) :: (28, .if_icmp .gt 15, 3, [43], 0) :: (31, .iload_n 3, 1, [], 0) :: (32, .bipush (-99), 2, [], 0) :: (34, .if_icmp .lt 9, 3, [43], 0) :: (37, .iload_n 3, 1, [], 0) :: (38, .bipush 99, 2, [], 0) :: (40, .if_icmp .le 6, 3, [46], 0) :: c196_43
/-! 197 SueOrSettle.sure(I)I -/
def c197_27 : List JE := (27, .ireturn, 1, [], 0) :: []
def c197_19 : List JE := (19, .aload_n 0, 1, [], 0) :: (20, .getfield 69, 3, [11, 11, 2001, 0], 0) :: (23, .iload_n 1, 1, [], 0) :: (24, .invokevirtual 342, 3, [5, 1, 109, 9, 5077, 5078, 5079, 1006], 0) :: c197_27
def c197_15 : List JE := (15, .iconst (-1), 1, [], 0) :: (16, .goto 11, 3, [27], 0) :: c197_19
def c197_0 : List JE := (0, .iload_n 1, 1, [], 0) :: (1, .iconst (-1), 1, [], 0) :: (2, .if_icmp .lt 13, 3, [15], 0) :: (5, .aload_n 0, 1, [], 0) :: (6, .getfield 69, 3, [11, 11, 2001, 0], 0) :: (9, .invokevirtual 339, 3, [5, 0, 104, 9, 5073, 5074, 5075, 1006], 0) :: (12, .ifCond .ne 7, 3, [19], 0) :: c197_15
/-! 198 SueOrSettle.lots(I)I -/
def c198_66 : List JE := (66, .l2i, 1, [], 0) :: (67, .ireturn, 1, [], 0) :: []
def c198_59 : List JE := (59, .lload_n 2, 1, [], 0) :: (60, .lload 4, 2, [], 0) :: (62, .iload_n 1, 1, [], 0) :: (63, .invokestatic 163, 3, [0, 3, 223, 2179, 2180, 1001], 0) :: c198_66
def c198_23 : List JE := (23, .aload_n 0, 1, [], 0) :: (24, .getfield 69, 3, [11, 11, 2001, 0], 0) :: (27, .invokevirtual 348, 3, [5, 0, 114, 9, 5093, 5094, 5095, 1006], 0) :: (30, .lstore_n 2, 1, [], 0) :: (31, .aload_n 0, 1, [], 0) :: (32, .getfield 69, 3, [11, 11, 2001, 0], 0) :: (35, .invokevirtual 352, 3, [5, 0, 115, 9, 5111, 5112, 5113, 1006], 0) :: (38, .lstore 4, 2, [], 0) :: (40, .lload 4, 2, [], 0) :: (42, .lconst 0, 1, [], 0) :: (43, .lcmp, 1, [], 0) :: (44, .ifCond .ge 15, 3, [59], 0) :: (47, .lload_n 2, 1, [], 0) :: (48, .lneg, 1, [], 0) :: (49, .lload 4, 2, [], 0) :: (51, .lneg, 1, [], 0) :: (52, .iload_n 1, 1, [], 0) :: (53, .invokestatic 163, 3, [0, 3, 223, 2179, 2180, 1001], 0) :: (56, .goto 10, 3, [66], 0) :: c198_59
def c198_10 : List JE := (10, .aload_n 0, 1, [], 0) :: (11, .getfield 69, 3, [11, 11, 2001, 0], 0) :: (14, .invokevirtual 345, 3, [5, 0, 110, 9, 5089, 5090, 5091, 1006], 0) :: (17, .ifCond .ne 6, 3, [23], 0) :: (20, .bipush (-5), 2, [], 0) :: (22, .ireturn, 1, [], 0) :: c198_23
def c198_0 : List JE := (0, .iload_n 1, 1, [], 0) :: (1, .invokestatic 156, 3, [0, 1, 221, 2168, 2169, 1001], 0) :: (4, .ifCond .ne 6, 3, [10], 0) :: (7, .ldc 194, 2, [3116], (-2000000000)) :: (9, .ireturn, 1, [], 0) :: c198_10
/-! 199 SueOrSettle.struck(I)I -/
def c199_29 : List JE := (29, .ireturn, 1, [], 0) :: []
def c199_21 : List JE := (21, .aload_n 0, 1, [], 0) :: (22, .getfield 69, 3, [11, 11, 2001, 0], 0) :: (25, .iload_n 1, 1, [], 0) :: (26, .invokevirtual 355, 3, [5, 1, 116, 9, 5119, 5120, 5121, 1006], 0) :: c199_29
def c199_17 : List JE := (17, .iconst (-1), 1, [], 0) :: (18, .goto 11, 3, [29], 0) :: c199_21
def c199_0 : List JE := (0, .iload_n 1, 1, [], 0) :: (1, .invokestatic 156, 3, [0, 1, 221, 2168, 2169, 1001], 0) :: (4, .ifCond .eq 13, 3, [17], 0) :: (7, .aload_n 0, 1, [], 0) :: (8, .getfield 69, 3, [11, 11, 2001, 0], 0) :: (11, .invokevirtual 339, 3, [5, 0, 104, 9, 5073, 5074, 5075, 1006], 0) :: (14, .ifCond .ne 7, 3, [21], 0) :: c199_17
/-! 200 SueOrSettle.sort(III)I -/
def c200_33 : List JE := (33, .aload_n 0, 1, [], 0) :: (34, .getfield 69, 3, [11, 11, 2001, 0], 0) :: (37, .iload_n 1, 1, [], 0) :: (38, .iload_n 2, 1, [], 0) :: (39, .iload_n 3, 1, [], 0) :: (40, .invokevirtual 358, 3, [5, 3, 119, 9, 5135, 5136, 5137, 1006], 0) :: (43, .ireturn, 1, [], 0) :: []
def c200_31 : List JE := (31, .iconst (-1), 1, [], 0) :: (32, .ireturn, 1, [], 0) :: c200_33
def c200_0 : List JE := (0, .iload_n 1, 1, [], 0) :: (1, .iconst 1, 1, [], 0) :: (2, .if_icmp .lt 29, 3, [31], 0) :: (5, .iload_n 1, 1, [], 0) :: (6, .bipush 9, 2, [], 0) :: (8, .if_icmp .gt 23, 3, [31], 0) :: (11, .iload_n 2, 1, [], 0) :: (12, .ifCond .lt 19, 3, [31], 0) :: (15, .iload_n 2, 1, [], 0) :: (16, .bipush 99, 2, [], 0) :: (18, .if_icmp .gt 13, 3, [31], 0) :: (21, .iload_n 3, 1, [], 0) :: (22, .ifCond .lt 9, 3, [31], 0) :: (25, .iload_n 3, 1, [], 0) :: (26, .bipush 99, 2, [], 0) :: (28, .if_icmp .le 5, 3, [33], 0) :: c200_31
/-! 201 SueOrSettle.offer(I)I -/
def c201_22 : List JE := (22, .ireturn, 1, [], 0) :: []
def c201_14 : List JE := (14, .aload_n 0, 1, [], 0) :: (15, .getfield 69, 3, [11, 11, 2001, 0], 0) :: (18, .iload_n 1, 1, [], 0) :: (19, .invokevirtual 361, 3, [5, 1, 120, 9, 5143, 5144, 5145, 1006], 0) :: c201_22
def c201_10 : List JE := (10, .iconst (-1), 1, [], 0) :: (11, .goto 11, 3, [22], 0) :: c201_14
def c201_0 : List JE := (0, .iload_n 1, 1, [], 0) :: (1, .ifCond .lt 9, 3, [10], 0) :: (4, .iload_n 1, 1, [], 0) :: (5, .bipush 99, 2, [], 0) :: (7, .if_icmp .le 7, 3, [14], 0) :: c201_10
/-! 202 SueOrSettle.holds(II)I -/
def c202_32 : List JE := (32, .ireturn, 1, [], 0) :: []
def c202_23 : List JE := (23, .aload_n 0, 1, [], 0) :: (24, .getfield 69, 3, [11, 11, 2001, 0], 0) :: (27, .iload_n 1, 1, [], 0) :: (28, .iload_n 2, 1, [], 0) :: (29, .invokevirtual 364, 3, [5, 2, 122, 9, 5151, 5152, 5153, 1006], 0) :: c202_32
def c202_19 : List JE := (19, .iconst (-1), 1, [], 0) :: (20, .goto 12, 3, [32], 0) :: c202_23
def c202_0 : List JE := (0, .iload_n 1, 1, [], 0) :: (1, .ifCond .lt 18, 3, [19], 0) :: (4, .iload_n 1, 1, [], 0) :: (5, .bipush 99, 2, [], 0) :: (7, .if_icmp .gt 12, 3, [19], 0) :: (10, .iload_n 2, 1, [], 0) :: (11, .ifCond .lt 8, 3, [19], 0) :: (14, .iload_n 2, 1, [], 0) :: (15, .iconst 2, 1, [], 0) :: (16, .if_icmp .le 7, 3, [23], 0) :: c202_19
/-! 203 SueOrSettle.clear()I -/
def c203_0 : List JE := (0, .aload_n 0, 1, [], 0) :: (1, .getfield 69, 3, [11, 11, 2001, 0], 0) :: (4, .invokevirtual 367, 3, [5, 0, 121, 9, 5183, 5184, 5185, 1006], 0) :: (7, .ireturn, 1, [], 0) :: []
/-! 204 SueOrSettle.effort(II)I -/
def c204_33 : List JE := (33, .ireturn, 1, [], 0) :: []
def c204_24 : List JE := (24, .aload_n 0, 1, [], 0) :: (25, .getfield 69, 3, [11, 11, 2001, 0], 0) :: (28, .iload_n 1, 1, [], 0) :: (29, .iload_n 2, 1, [], 0) :: (30, .invokevirtual 371, 3, [5, 2, 129, 9, 5191, 5192, 5193, 1006], 0) :: c204_33
def c204_20 : List JE := (20, .iconst (-1), 1, [], 0) :: (21, .goto 12, 3, [33], 0) :: c204_24
def c204_0 : List JE := (0, .iload_n 1, 1, [], 0) :: (1, .ifCond .lt 19, 3, [20], 0) :: (4, .iload_n 1, 1, [], 0) :: (5, .bipush 99, 2, [], 0) :: (7, .if_icmp .gt 13, 3, [20], 0) :: (10, .iload_n 2, 1, [], 0) :: (11, .ifCond .lt 9, 3, [20], 0) :: (14, .iload_n 2, 1, [], 0) :: (15, .bipush 100, 2, [], 0) :: (17, .if_icmp .le 7, 3, [24], 0) :: c204_20
/-! 205 SueOrSettle.hired(II)I -/
def c205_102 : List JE := (102, .ireturn, 1, [], 0) :: []
def c205_82 : List JE := (82, .aload_n 0, 1, [], 0) :: (83, .getfield 69, 3, [11, 11, 2001, 0], 0) :: (86, .iload_n 1, 1, [], 0) :: (87, .iload_n 3, 1, [], 0) :: (88, .invokevirtual 386, 3, [5, 2, 132, 9, 5216, 5208, 5209, 1006], 0) :: (91, .i2l, 1, [], 0) :: (92, .ldc2_w 389, 3, [5217], 10000) :: (95, .iload_n 2, 1, [], 0) :: (96, .iconst 2, 1, [], 0) :: (97, .isub, 1, [], 0) :: (98, .invokestatic 163, 3, [0, 3, 223, 2179, 2180, 1001], 0) :: (101, .l2i, 1, [], 0) :: c205_102
def c205_65 : List JE := (65, .iload_n 2, 1, [], 0) :: (66, .iconst 1, 1, [], 0) :: (67, .if_icmp .ne 15, 3, [82], 0) :: (70, .aload_n 0, 1, [], 0) :: (71, .getfield 69, 3, [11, 11, 2001, 0], 0) :: (74, .iload_n 1, 1, [], 0) :: (75, .iload_n 3, 1, [], 0) :: (76, .invokevirtual 383, 3, [5, 2, 131, 9, 5215, 5212, 5213, 1006], 0) :: (79, .goto 23, 3, [102], 0) :: c205_82
def c205_50 : List JE := (50, .aload_n 0, 1, [], 0) :: (51, .getfield 69, 3, [11, 11, 2001, 0], 0) :: (54, .iload_n 1, 1, [], 0) :: (55, .invokevirtual 380, 3, [5, 1, 133, 9, 5203, 5204, 5205, 1006], 0) :: (58, .istore_n 3, 1, [], 0) :: (59, .iload_n 2, 1, [], 0) :: (60, .ifCond .ne 5, 3, [65], 0) :: (63, .iload_n 3, 1, [], 0) :: (64, .ireturn, 1, [], 0) :: c205_65
def c205_36 : List JE := (36, .aload_n 0, 1, [], 0) :: (37, .getfield 69, 3, [11, 11, 2001, 0], 0) :: (40, .getfield 377, 3, [9, 9, 1190, 0], 0) :: (43, .iconst 2, 1, [], 0) :: (44, .if_icmp .ge 6, 3, [50], 0) :: (47, .bipush (-5), 2, [], 0) :: (49, .ireturn, 1, [], 0) :: c205_50
def c205_23 : List JE := (23, .iload_n 2, 1, [], 0) :: (24, .iconst (-1), 1, [], 0) :: (25, .if_icmp .ne 11, 3, [36], 0) :: (28, .aload_n 0, 1, [], 0) :: (29, .getfield 69, 3, [11, 11, 2001, 0], 0) :: (32, .invokevirtual 374, 3, [5, 0, 130, 9, 5199, 5200, 5201, 1006], 0) :: (35, .ireturn, 1, [], 0) :: c205_36
def c205_21 : List JE := (21, .iconst (-1), 1, [], 0) :: (22, .ireturn, 1, [], 0) :: c205_23
def c205_0 : List JE := (0, .iload_n 1, 1, [], 0) :: (1, .ifCond .lt 20, 3, [21], 0) :: (4, .iload_n 1, 1, [], 0) :: (5, .sipush 999, 3, [], 0) :: (8, .if_icmp .gt 13, 3, [21], 0) :: (11, .iload_n 2, 1, [], 0) :: (12, .iconst (-1), 1, [], 0) :: (13, .if_icmp .lt 8, 3, [21], 0) :: (16, .iload_n 2, 1, [], 0) :: (17, .iconst 3, 1, [], 0) :: (18, .if_icmp .le 5, 3, [23], 0) :: c205_21
/-! 206 SueOrSettle.day(IIII)I -/
def c206_22 : List JE := (22, .aload_n 0, 1, [], 0) :: (23, .getfield 69, 3, [11, 11, 2001, 0], 0) :: (26, .iload_n 1, 1, [], 0) :: (27, .iload_n 2, 1, [], 0) :: (28, .iload_n 3, 1, [], 0) :: (29, .iload 4, 2, [], 0) :: (31, .invokevirtual 394, 3, [5, 4, 135, 9, 5225, 5226, 5227, 1006], 0) :: (34, .iconst 1, 1, [], 0) :: (35, .ireturn, 1, [], 0) :: []
def c206_20 : List JE := (20, .iconst (-1), 1, [], 0) :: (21, .ireturn, 1, [], 0) :: c206_22
def c206_0 : List JE := (0, .iload_n 1, 1, [], 0) :: (1, .ifCond .lt 19, 3, [20], 0) :: (4, .iload_n 1, 1, [], 0) :: (5, .bipush 20, 2, [], 0) :: (7, .if_icmp .ge 13, 3, [20], 0) :: (10, .iload_n 2, 1, [], 0) :: (11, .iload_n 3, 1, [], 0) :: (12, .iload 4, 2, [], 0) :: (14, .invokestatic 391, 3, [0, 3, 134, 5222, 5223, 1006], 0) :: (17, .ifCond .ne 5, 3, [22], 0) :: c206_20
/-! 207 SueOrSettle.days(III)I -/
def c207_54 : List JE := (54, .ireturn, 1, [], 0) :: []
def c207_52 : List JE := (52, .bipush (-12), 2, [], 0) :: c207_54
def c207_32 : List JE := (32, .aload_n 0, 1, [], 0) :: (33, .getfield 73, 3, [11, 12, 2002, 0], 0) :: (36, .iload_n 1, 1, [], 0) :: (37, .iaload, 1, [], 0) :: (38, .iconst 1, 1, [], 0) :: (39, .if_icmp .ne 13, 3, [52], 0) :: (42, .aload_n 0, 1, [], 0) :: (43, .iload_n 1, 1, [], 0) :: (44, .iload_n 2, 1, [], 0) :: (45, .iload_n 3, 1, [], 0) :: (46, .invokevirtual 401, 3, [5, 3, 238, 11, 5236, 5238, 55, 1001], 0) :: (49, .goto 5, 3, [54], 0) :: c207_52
def c207_20 : List JE := (20, .aload_n 0, 1, [], 0) :: (21, .getfield 73, 3, [11, 12, 2002, 0], 0) :: (24, .iload_n 1, 1, [], 0) :: (25, .iaload, 1, [], 0) :: (26, .iconst (-1), 1, [], 0) :: (27, .if_icmp .ne 5, 3, [32], 0) :: (30, .iconst 0, 1, [], 0) :: (31, .ireturn, 1, [], 0) :: c207_32
def c207_18 : List JE := (18, .iconst (-1), 1, [], 0) :: (19, .ireturn, 1, [], 0) :: c207_20
def c207_0 : List JE := (0, .iload_n 1, 1, [], 0) :: (1, .invokestatic 398, 3, [0, 1, 222, 5233, 5234, 1001], 0) :: (4, .ifCond .eq 14, 3, [18], 0) :: (7, .iload_n 3, 1, [], 0) :: (8, .iconst 1, 1, [], 0) :: (9, .if_icmp .lt 9, 3, [18], 0) :: (12, .iload_n 3, 1, [], 0) :: (13, .bipush 20, 2, [], 0) :: (15, .if_icmp .le 5, 3, [20], 0) :: c207_18
/-! 208 SueOrSettle.waits(III)J -/
def c208_92 : List JE := (92, .lreturn, 1, [], 0) :: []
def c208_78 : List JE := (78, .aload_n 0, 1, [], 0) :: (79, .getfield 69, 3, [11, 11, 2001, 0], 0) :: (82, .iload_n 1, 1, [], 0) :: (83, .bipush 100, 2, [], 0) :: (85, .idiv, 1, [], 0) :: (86, .iload 4, 2, [], 0) :: (88, .iload_n 2, 1, [], 0) :: (89, .invokevirtual 408, 3, [5, 3, 136, 9, 6023, 6010, 6011, 1006], 0) :: c208_92
def c208_57 : List JE := (57, .iload_n 3, 1, [], 0) :: (58, .ifCond .ne 20, 3, [78], 0) :: (61, .aload_n 0, 1, [], 0) :: (62, .getfield 69, 3, [11, 11, 2001, 0], 0) :: (65, .iload_n 1, 1, [], 0) :: (66, .bipush 100, 2, [], 0) :: (68, .idiv, 1, [], 0) :: (69, .iload 4, 2, [], 0) :: (71, .iload_n 2, 1, [], 0) :: (72, .invokevirtual 404, 3, [5, 3, 137, 9, 6004, 6005, 6006, 1006], 0) :: (75, .goto 17, 3, [92], 0) :: c208_78
def c208_53 : List JE := (53, .ldc2_w 255, 3, [4050], (-9223372036854775808)) :: (56, .lreturn, 1, [], 0) :: c208_57
def c208_0 : List JE := (0, .iload_n 1, 1, [], 0) :: (1, .bipush 100, 2, [], 0) :: (3, .irem, 1, [], 0) :: (4, .istore 4, 2, [], 0) :: (6, .iload_n 1, 1, [], 0) :: (7, .ifCond .lt 46, 3, [53], 0) :: (10, .iload 4, 2, [], 0) :: (12, .iconst 1, 1, [], 0) :: (13, .if_icmp .lt 40, 3, [53], 0) :: (16, .iload 4, 2, [], 0) :: (18, .bipush 20, 2, [], 0) :: (20, .if_icmp .gt 33, 3, [53], 0) :: (23, .iload_n 1, 1, [], 0) :: (24, .bipush 100, 2, [], 0) :: (26, .idiv, 1, [], 0) :: (27, .iload 4, 2, [], 0) :: (29, .if_icmp .ge 24, 3, [53], 0) :: (32, .iload_n 2, 1, [], 0) :: (33, .sipush (-999), 3, [], 0) :: (36, .if_icmp .lt 17, 3, [53], 0) :: (39, .iload_n 2, 1, [], 0) :: (40, .sipush 999, 3, [], 0) :: (43, .if_icmp .gt 10, 3, [53], 0) :: (46, .iload_n 3, 1, [], 0) :: (47, .invokestatic 156, 3, [0, 1, 221, 2168, 2169, 1001], 0) :: (50, .ifCond .ne 7, 3, [57], 0) :: c208_53
/-! 209 SueOrSettle.run(III)I -/
def c209_127 : List JE := (127, .iload 6, 2, [], 0) :: (129, .ireturn, 1, [], 0) :: []
def c209_109 : List JE := (109, .iload 6, 2, [], 0) :: (111, .aload 4, 2, [], 0) :: (113, .iload 8, 2, [], 0) :: (115, .invokevirtual 418, 3, [5, 1, 53, 4, 6034, 6035, 6036, 1011], 0) :: (118, .iadd, 1, [], 0) :: (119, .istore 6, 2, [], 0) :: (121, .iinc 7 1, 3, [], 0) :: (124, .goto (-83), 3, [41], 0) :: c209_127
def c209_53 : List JE := (53, .iload 9, 2, [], 0) :: (55, .aload_n 0, 1, [], 0) :: (56, .getfield 10, 3, [11, 0, 1230, 0], 0) :: (59, .getfield 95, 3, [10, 0, 1032, 0], 0) :: (62, .if_icmp .ge 47, 3, [109], 0) :: (65, .iload 5, 2, [], 0) :: (67, .ldc_w 414, 3, [6029], 1103515245) :: (70, .imul, 1, [], 0) :: (71, .sipush 12345, 3, [], 0) :: (74, .iadd, 1, [], 0) :: (75, .istore 5, 2, [], 0) :: (77, .iload 8, 2, [], 0) :: (79, .aload_n 0, 1, [], 0) :: (80, .getfield 10, 3, [11, 0, 1230, 0], 0) :: (83, .iload 9, 2, [], 0) :: (85, .iload 8, 2, [], 0) :: (87, .iload 5, 2, [], 0) :: (89, .bipush 8, 2, [], 0) :: (91, .iushr, 1, [], 0) :: (92, .invokevirtual 415, 3, [5, 3, 164, 10, 6030, 6031, 6032, 1002], 0) :: (95, .iconst 2, 1, [], 0) :: (96, .iload 9, 2, [], 0) :: (98, .imul, 1, [], 0) :: (99, .ishl, 1, [], 0) :: (100, .ior, 1, [], 0) :: (101, .istore 8, 2, [], 0) :: (103, .iinc 9 1, 3, [], 0) :: (106, .goto (-53), 3, [53], 0) :: c209_109
def c209_41 : List JE := (41, .iload 7, 2, [], 0) :: (43, .iload_n 3, 1, [], 0) :: (44, .if_icmp .ge 83, 3, [127], 0) :: (47, .iconst 0, 1, [], 0) :: (48, .istore 8, 2, [], 0) :: (50, .iconst 0, 1, [], 0) :: (51, .istore 9, 2, [], 0) :: c209_53
def c209_27 : List JE := (27, .aload 4, 2, [], 0) :: (29, .invokevirtual 411, 3, [5, 0, 42, 4, 6028, 4060, 4061, 1011], 0) :: (32, .iload_n 2, 1, [], 0) :: (33, .istore 5, 2, [], 0) :: (35, .iconst 0, 1, [], 0) :: (36, .istore 6, 2, [], 0) :: (38, .iconst 0, 1, [], 0) :: (39, .istore 7, 2, [], 0) :: c209_41
def c209_24 : List JE := (24, .ldc 194, 2, [3116], (-2000000000)) :: (26, .ireturn, 1, [], 0) :: c209_27
def c209_0 : List JE := (0, .aload_n 0, 1, [], 0) :: (1, .iload_n 1, 1, [], 0) :: (2, .invokevirtual 191, 3, [5, 1, 219, 11, 3112, 3114, 21, 1001], 0) :: (5, .astore 4, 2, [], 0) :: (7, .aload 4, 2, [], 0) :: (9, .ifnull 15, 3, [24], 0) :: (12, .iload_n 3, 1, [], 0) :: (13, .iconst 1, 1, [], 0) :: (14, .if_icmp .lt 10, 3, [24], 0) :: (17, .iload_n 3, 1, [], 0) :: (18, .sipush 200, 3, [], 0) :: (21, .if_icmp .le 6, 3, [27], 0) :: c209_24
/-! 210 SueOrSettle.act(III)I -/
def c210_77 : List JE := (77, .aload 4, 2, [], 0) :: (79, .iload_n 3, 1, [], 0) :: (80, .invokevirtual 433, 3, [9, 1], 0) :: (83, .ireturn, 1, [], 0) :: []
def c210_70 : List JE := (70, .aload 4, 2, [], 0) :: (72, .iload_n 3, 1, [], 0) :: (73, .invokevirtual 430, 3, [9, 1], 0) :: (76, .ireturn, 1, [], 0) :: c210_77
def c210_63 : List JE := (63, .aload 4, 2, [], 0) :: (65, .iload_n 3, 1, [], 0) :: (66, .invokevirtual 427, 3, [9, 1], 0) :: (69, .ireturn, 1, [], 0) :: c210_70
def c210_56 : List JE := (56, .aload 4, 2, [], 0) :: (58, .iload_n 3, 1, [], 0) :: (59, .invokevirtual 424, 3, [9, 1], 0) :: (62, .ireturn, 1, [], 0) :: c210_63
def c210_30 : List JE := (30, .iload_n 2, 1, [], 0) :: (31, .tableswitch 46 0 2 #[25, 32, 39], 25, [77, 56, 63, 70], 0) :: c210_56
def c210_28 : List JE := (28, .iconst 0, 1, [], 0) :: (29, .ireturn, 1, [], 0) :: c210_30
def c210_0 : List JE := (0, .aload_n 0, 1, [], 0) :: (1, .iload_n 1, 1, [], 0) :: (2, .invokevirtual 248, 3, [5, 1, 220, 11, 4018, 4020, 24, 1001], 0) :: (5, .astore 4, 2, [], 0) :: (7, .aload_n 0, 1, [], 0) :: (8, .getfield 36, 3, [11, 4, 1234, 0], 0) :: (11, .invokevirtual 421, 3, [5, 0, 93, 7, 6042, 6043, 6044, 1004], 0) :: (14, .aload 4, 2, [], 0) :: (16, .ifnull 12, 3, [28], 0) :: (19, .iload_n 2, 1, [], 0) :: (20, .ifCond .lt 8, 3, [28], 0) :: (23, .iload_n 2, 1, [], 0) :: (24, .iconst 3, 1, [], 0) :: (25, .if_icmp .le 5, 3, [30], 0) :: c210_28
/-! 211 SueOrSettle.trace(I)I -/
def c211_23 : List JE := (23, .ireturn, 1, [], 0) :: []
def c211_22 : List JE := (22, .iconst (-1), 1, [], 0) :: c211_23
def c211_0 : List JE := (0, .aload_n 0, 1, [], 0) :: (1, .getfield 36, 3, [11, 4, 1234, 0], 0) :: (4, .iload_n 1, 1, [], 0) :: (5, .invokevirtual 436, 3, [5, 1, 95, 7, 6124, 6125, 6126, 1004], 0) :: (8, .ifCond .eq 14, 3, [22], 0) :: (11, .aload_n 0, 1, [], 0) :: (12, .getfield 36, 3, [11, 4, 1234, 0], 0) :: (15, .iload_n 1, 1, [], 0) :: (16, .invokevirtual 439, 3, [5, 1, 96, 7, 6128, 6129, 6130, 1004], 0) :: (19, .goto 4, 3, [23], 0) :: c211_22
/-! 212 SueOrSettle.keep(II)I -/
def c212_40 : List JE := (40, .iastore, 1, [], 0) :: (41, .aload_n 0, 1, [], 0) :: (42, .getfield 76, 3, [11, 13, 2003, 0], 0) :: (45, .iload_n 1, 1, [], 0) :: (46, .iconst 0, 1, [], 0) :: (47, .iastore, 1, [], 0) :: (48, .iconst 1, 1, [], 0) :: (49, .ireturn, 1, [], 0) :: []
def c212_36 : List JE := (36, .bipush 10, 2, [], 0) :: (38, .iload_n 2, 1, [], 0) :: (39, .iadd, 1, [], 0) :: c212_40
def c212_22 : List JE := (22, .aload_n 0, 1, [], 0) :: (23, .getfield 73, 3, [11, 12, 2002, 0], 0) :: (26, .iload_n 1, 1, [], 0) :: (27, .iload_n 2, 1, [], 0) :: (28, .iconst (-1), 1, [], 0) :: (29, .if_icmp .ne 7, 3, [36], 0) :: (32, .iconst (-1), 1, [], 0) :: (33, .goto 7, 3, [40], 0) :: c212_36
def c212_20 : List JE := (20, .iconst (-1), 1, [], 0) :: (21, .ireturn, 1, [], 0) :: c212_22
def c212_0 : List JE := (0, .iload_n 1, 1, [], 0) :: (1, .invokestatic 398, 3, [0, 1, 222, 5233, 5234, 1001], 0) :: (4, .ifCond .eq 16, 3, [20], 0) :: (7, .iload_n 2, 1, [], 0) :: (8, .iconst (-1), 1, [], 0) :: (9, .if_icmp .eq 13, 3, [22], 0) :: (12, .aload_n 0, 1, [], 0) :: (13, .iload_n 2, 1, [], 0) :: (14, .invokevirtual 248, 3, [5, 1, 220, 11, 4018, 4020, 24, 1001], 0) :: (17, .ifnonnull 5, 3, [22], 0) :: c212_20
/-! 213 SueOrSettle.row(III)I -/
def c213_73 : List JE := (73, .iconst 1, 1, [], 0) :: (74, .ireturn, 1, [], 0) :: []
def c213_48 : List JE := (48, .iload 4, 2, [], 0) :: (50, .iload_n 3, 1, [], 0) :: (51, .if_icmp .ge 22, 3, [73], 0) :: (54, .aload_n 0, 1, [], 0) :: (55, .getfield 79, 3, [11, 14, 2004, 0], 0) :: (58, .bipush 60, 2, [], 0) :: (60, .iload_n 1, 1, [], 0) :: (61, .imul, 1, [], 0) :: (62, .iload 4, 2, [], 0) :: (64, .iadd, 1, [], 0) :: (65, .lconst 0, 1, [], 0) :: (66, .lastore, 1, [], 0) :: (67, .iinc 4 1, 3, [], 0) :: (70, .goto (-22), 3, [48], 0) :: c213_73
def c213_31 : List JE := (31, .aload_n 0, 1, [], 0) :: (32, .getfield 73, 3, [11, 12, 2002, 0], 0) :: (35, .iload_n 1, 1, [], 0) :: (36, .iload_n 2, 1, [], 0) :: (37, .iastore, 1, [], 0) :: (38, .aload_n 0, 1, [], 0) :: (39, .getfield 76, 3, [11, 13, 2003, 0], 0) :: (42, .iload_n 1, 1, [], 0) :: (43, .iload_n 3, 1, [], 0) :: (44, .iastore, 1, [], 0) :: (45, .iconst 0, 1, [], 0) :: (46, .istore 4, 2, [], 0) :: c213_48
def c213_24 : List JE := (24, .iload_n 3, 1, [], 0) :: (25, .ifCond .ge 6, 3, [31], 0) :: (28, .bipush (-14), 2, [], 0) :: (30, .ireturn, 1, [], 0) :: c213_31
def c213_22 : List JE := (22, .iconst (-1), 1, [], 0) :: (23, .ireturn, 1, [], 0) :: c213_24
def c213_0 : List JE := (0, .iload_n 1, 1, [], 0) :: (1, .invokestatic 398, 3, [0, 1, 222, 5233, 5234, 1001], 0) :: (4, .ifCond .eq 18, 3, [22], 0) :: (7, .iload_n 2, 1, [], 0) :: (8, .ifCond .lt 14, 3, [22], 0) :: (11, .iload_n 2, 1, [], 0) :: (12, .iconst 5, 1, [], 0) :: (13, .if_icmp .ge 9, 3, [22], 0) :: (16, .iload_n 3, 1, [], 0) :: (17, .bipush 60, 2, [], 0) :: (19, .if_icmp .le 5, 3, [24], 0) :: c213_22
/-! 214 SueOrSettle.put(IIJ)I -/
def c214_16 : List JE := (16, .aload_n 0, 1, [], 0) :: (17, .getfield 79, 3, [11, 14, 2004, 0], 0) :: (20, .bipush 60, 2, [], 0) :: (22, .iload_n 1, 1, [], 0) :: (23, .imul, 1, [], 0) :: (24, .iload_n 2, 1, [], 0) :: (25, .iadd, 1, [], 0) :: (26, .aload_n 0, 1, [], 0) :: (27, .getfield 73, 3, [11, 12, 2002, 0], 0) :: (30, .iload_n 1, 1, [], 0) :: (31, .iaload, 1, [], 0) :: (32, .lload_n 3, 1, [], 0) :: (33, .invokestatic 445, 3, [0, 2, 240, 6148, 6149, 1001], 0) :: (36, .lastore, 1, [], 0) :: (37, .iconst 1, 1, [], 0) :: (38, .ireturn, 1, [], 0) :: []
def c214_0 : List JE := (0, .aload_n 0, 1, [], 0) :: (1, .iload_n 1, 1, [], 0) :: (2, .iload_n 2, 1, [], 0) :: (3, .invokevirtual 442, 3, [5, 2, 239, 11, 6144, 6146, 56, 1001], 0) :: (6, .istore 5, 2, [], 0) :: (8, .iload 5, 2, [], 0) :: (10, .ifCond .eq 6, 3, [16], 0) :: (13, .iload 5, 2, [], 0) :: (15, .ireturn, 1, [], 0) :: c214_16
/-! 215 SueOrSettle.element(II)J -/
def c215_26 : List JE := (26, .lreturn, 1, [], 0) :: []
def c215_15 : List JE := (15, .aload_n 0, 1, [], 0) :: (16, .getfield 79, 3, [11, 14, 2004, 0], 0) :: (19, .bipush 60, 2, [], 0) :: (21, .iload_n 1, 1, [], 0) :: (22, .imul, 1, [], 0) :: (23, .iload_n 2, 1, [], 0) :: (24, .iadd, 1, [], 0) :: (25, .laload, 1, [], 0) :: c215_26
def c215_0 : List JE := (0, .aload_n 0, 1, [], 0) :: (1, .iload_n 1, 1, [], 0) :: (2, .iload_n 2, 1, [], 0) :: (3, .invokevirtual 442, 3, [5, 2, 239, 11, 6144, 6146, 56, 1001], 0) :: (6, .ifCond .eq 9, 3, [15], 0) :: (9, .ldc2_w 255, 3, [4050], (-9223372036854775808)) :: (12, .goto 14, 3, [26], 0) :: c215_15
/-! 216 SueOrSettle.shift(IIIII)I -/
def c216_112 : List JE := (112, .aload_n 0, 1, [], 0) :: (113, .getfield 79, 3, [11, 14, 2004, 0], 0) :: (116, .bipush 60, 2, [], 0) :: (118, .iload_n 1, 1, [], 0) :: (119, .imul, 1, [], 0) :: (120, .iload_n 2, 1, [], 0) :: (121, .iadd, 1, [], 0) :: (122, .aload_n 0, 1, [], 0) :: (123, .getfield 79, 3, [11, 14, 2004, 0], 0) :: (126, .bipush 60, 2, [], 0) :: (128, .iload_n 3, 1, [], 0) :: (129, .imul, 1, [], 0) :: (130, .iload 4, 2, [], 0) :: (132, .iadd, 1, [], 0) :: (133, .iload 5, 2, [], 0) :: (135, .invokestatic 449, 3, [7, 2099, 2101, 2100, 1009], 0) :: (138, .iload 5, 2, [], 0) :: (140, .ireturn, 1, [], 0) :: []
def c216_109 : List JE := (109, .bipush (-13), 2, [], 0) :: (111, .ireturn, 1, [], 0) :: c216_112
def c216_68 : List JE := (68, .iload 5, 2, [], 0) :: (70, .ifCond .lt 39, 3, [109], 0) :: (73, .iload_n 2, 1, [], 0) :: (74, .ifCond .lt 35, 3, [109], 0) :: (77, .iload 4, 2, [], 0) :: (79, .ifCond .lt 30, 3, [109], 0) :: (82, .iload_n 2, 1, [], 0) :: (83, .aload_n 0, 1, [], 0) :: (84, .getfield 76, 3, [11, 13, 2003, 0], 0) :: (87, .iload_n 1, 1, [], 0) :: (88, .iaload, 1, [], 0) :: (89, .iload 5, 2, [], 0) :: (91, .isub, 1, [], 0) :: (92, .if_icmp .gt 17, 3, [109], 0) :: (95, .iload 4, 2, [], 0) :: (97, .aload_n 0, 1, [], 0) :: (98, .getfield 76, 3, [11, 13, 2003, 0], 0) :: (101, .iload_n 3, 1, [], 0) :: (102, .iaload, 1, [], 0) :: (103, .iload 5, 2, [], 0) :: (105, .isub, 1, [], 0) :: (106, .if_icmp .le 6, 3, [112], 0) :: c216_109
def c216_65 : List JE := (65, .bipush (-12), 2, [], 0) :: (67, .ireturn, 1, [], 0) :: c216_68
def c216_39 : List JE := (39, .aload_n 0, 1, [], 0) :: (40, .getfield 73, 3, [11, 12, 2002, 0], 0) :: (43, .iload_n 1, 1, [], 0) :: (44, .iaload, 1, [], 0) :: (45, .bipush 10, 2, [], 0) :: (47, .if_icmp .ge 18, 3, [65], 0) :: (50, .aload_n 0, 1, [], 0) :: (51, .getfield 73, 3, [11, 12, 2002, 0], 0) :: (54, .iload_n 1, 1, [], 0) :: (55, .iaload, 1, [], 0) :: (56, .aload_n 0, 1, [], 0) :: (57, .getfield 73, 3, [11, 12, 2002, 0], 0) :: (60, .iload_n 3, 1, [], 0) :: (61, .iaload, 1, [], 0) :: (62, .if_icmp .eq 6, 3, [68], 0) :: c216_65
def c216_36 : List JE := (36, .bipush (-11), 2, [], 0) :: (38, .ireturn, 1, [], 0) :: c216_39
def c216_16 : List JE := (16, .aload_n 0, 1, [], 0) :: (17, .getfield 73, 3, [11, 12, 2002, 0], 0) :: (20, .iload_n 1, 1, [], 0) :: (21, .iaload, 1, [], 0) :: (22, .iconst (-1), 1, [], 0) :: (23, .if_icmp .eq 13, 3, [36], 0) :: (26, .aload_n 0, 1, [], 0) :: (27, .getfield 73, 3, [11, 12, 2002, 0], 0) :: (30, .iload_n 3, 1, [], 0) :: (31, .iaload, 1, [], 0) :: (32, .iconst (-1), 1, [], 0) :: (33, .if_icmp .ne 6, 3, [39], 0) :: c216_36
def c216_14 : List JE := (14, .iconst (-1), 1, [], 0) :: (15, .ireturn, 1, [], 0) :: c216_16
def c216_0 : List JE := (0, .iload_n 1, 1, [], 0) :: (1, .invokestatic 398, 3, [0, 1, 222, 5233, 5234, 1001], 0) :: (4, .ifCond .eq 10, 3, [14], 0) :: (7, .iload_n 3, 1, [], 0) :: (8, .invokestatic 398, 3, [0, 1, 222, 5233, 5234, 1001], 0) :: (11, .ifCond .ne 5, 3, [16], 0) :: c216_14
/-! 217 SueOrSettle.taken(II)I -/
def c217_66 : List JE := (66, .ireturn, 1, [], 0) :: []
def c217_62 : List JE := (62, .aload_n 3, 1, [], 0) :: (63, .invokevirtual 459, 3, [9, 0], 0) :: c217_66
def c217_57 : List JE := (57, .bipush (-12), 2, [], 0) :: (59, .goto 7, 3, [66], 0) :: c217_62
def c217_31 : List JE := (31, .aload_n 0, 1, [], 0) :: (32, .aload_n 0, 1, [], 0) :: (33, .getfield 73, 3, [11, 12, 2002, 0], 0) :: (36, .iload_n 1, 1, [], 0) :: (37, .iaload, 1, [], 0) :: (38, .bipush 10, 2, [], 0) :: (40, .isub, 1, [], 0) :: (41, .invokevirtual 248, 3, [5, 1, 220, 11, 4018, 4020, 24, 1001], 0) :: (44, .astore_n 3, 1, [], 0) :: (45, .aload_n 3, 1, [], 0) :: (46, .ifnull 11, 3, [57], 0) :: (49, .aload_n 3, 1, [], 0) :: (50, .iload_n 2, 1, [], 0) :: (51, .invokestatic 455, 3, [0, 2, 226, 6163, 6164, 1001], 0) :: (54, .ifCond .ne 8, 3, [62], 0) :: c217_57
def c217_18 : List JE := (18, .aload_n 0, 1, [], 0) :: (19, .getfield 73, 3, [11, 12, 2002, 0], 0) :: (22, .iload_n 1, 1, [], 0) :: (23, .iaload, 1, [], 0) :: (24, .iconst (-1), 1, [], 0) :: (25, .if_icmp .ne 6, 3, [31], 0) :: (28, .bipush (-11), 2, [], 0) :: (30, .ireturn, 1, [], 0) :: c217_31
def c217_16 : List JE := (16, .iconst (-1), 1, [], 0) :: (17, .ireturn, 1, [], 0) :: c217_18
def c217_0 : List JE := (0, .iload_n 1, 1, [], 0) :: (1, .invokestatic 398, 3, [0, 1, 222, 5233, 5234, 1001], 0) :: (4, .ifCond .eq 12, 3, [16], 0) :: (7, .iload_n 2, 1, [], 0) :: (8, .ifCond .lt 8, 3, [16], 0) :: (11, .iload_n 2, 1, [], 0) :: (12, .iconst 5, 1, [], 0) :: (13, .if_icmp .le 5, 3, [18], 0) :: c217_16
/-! 218 SueOrSettle.count(I)I -/
def c218_79 : List JE := (79, .iconst (-1), 1, [], 0) :: (80, .ireturn, 1, [], 0) :: []
def c218_71 : List JE := (71, .aload_n 0, 1, [], 0) :: (72, .getfield 36, 3, [11, 4, 1234, 0], 0) :: (75, .getfield 463, 3, [7, 5, 1129, 0], 0) :: (78, .ireturn, 1, [], 0) :: c218_79
def c218_66 : List JE := (66, .aload_n 0, 1, [], 0) :: (67, .getfield 60, 3, [11, 9, 1239, 0], 0) :: (70, .ireturn, 1, [], 0) :: c218_71
def c218_61 : List JE := (61, .aload_n 0, 1, [], 0) :: (62, .getfield 53, 3, [11, 7, 1237, 0], 0) :: (65, .ireturn, 1, [], 0) :: c218_66
def c218_53 : List JE := (53, .aload_n 0, 1, [], 0) :: (54, .getfield 19, 3, [11, 1, 1231, 0], 0) :: (57, .getfield 462, 3, [5, 0, 1067, 0], 0) :: (60, .ireturn, 1, [], 0) :: c218_61
def c218_48 : List JE := (48, .aload_n 0, 1, [], 0) :: (49, .getfield 29, 3, [11, 3, 1233, 0], 0) :: (52, .ireturn, 1, [], 0) :: c218_53
def c218_40 : List JE := (40, .aload_n 0, 1, [], 0) :: (41, .getfield 10, 3, [11, 0, 1230, 0], 0) :: (44, .getfield 95, 3, [10, 0, 1032, 0], 0) :: (47, .ireturn, 1, [], 0) :: c218_48
def c218_0 : List JE := (0, .iload_n 1, 1, [], 0) :: (1, .tableswitch 78 0 5 #[39, 47, 52, 60, 65, 70], 39, [79, 40, 48, 53, 61, 66, 71], 0) :: c218_40
/-! 219 SueOrSettle.quarrelAt(I)LSueOrSettle$Quarrel; -/
def c219_22 : List JE := (22, .areturn, 1, [], 0) :: []
def c219_16 : List JE := (16, .aload_n 0, 1, [], 0) :: (17, .getfield 25, 3, [11, 2, 1232, 0], 0) :: (20, .iload_n 1, 1, [], 0) :: (21, .aaload, 1, [24], 0) :: c219_22
def c219_12 : List JE := (12, .aconst_null, 1, [], 0) :: (13, .goto 9, 3, [22], 0) :: c219_16
def c219_0 : List JE := (0, .iload_n 1, 1, [], 0) :: (1, .ifCond .lt 11, 3, [12], 0) :: (4, .iload_n 1, 1, [], 0) :: (5, .aload_n 0, 1, [], 0) :: (6, .getfield 29, 3, [11, 3, 1233, 0], 0) :: (9, .if_icmp .lt 7, 3, [16], 0) :: c219_12
/-! 220 SueOrSettle.feelingAt(I)LSueOrSettle$End; -/
def c220_22 : List JE := (22, .areturn, 1, [], 0) :: []
def c220_16 : List JE := (16, .aload_n 0, 1, [], 0) :: (17, .getfield 49, 3, [11, 6, 1236, 0], 0) :: (20, .iload_n 1, 1, [], 0) :: (21, .aaload, 1, [25], 0) :: c220_22
def c220_12 : List JE := (12, .aconst_null, 1, [], 0) :: (13, .goto 9, 3, [22], 0) :: c220_16
def c220_0 : List JE := (0, .iload_n 1, 1, [], 0) :: (1, .ifCond .lt 11, 3, [12], 0) :: (4, .iload_n 1, 1, [], 0) :: (5, .aload_n 0, 1, [], 0) :: (6, .getfield 53, 3, [11, 7, 1237, 0], 0) :: (9, .if_icmp .lt 7, 3, [16], 0) :: c220_12
/-! 221 SueOrSettle.isPart(I)Z -/
def c221_14 : List JE := (14, .ireturn, 1, [1], 0) :: []
def c221_13 : List JE := (13, .iconst 0, 1, [], 0) :: c221_14
def c221_9 : List JE := (9, .iconst 1, 1, [], 0) :: (10, .goto 4, 3, [14], 0) :: c221_13
def c221_0 : List JE := (0, .iload_n 0, 1, [], 0) :: (1, .ifCond .eq 8, 3, [9], 0) :: (4, .iload_n 0, 1, [], 0) :: (5, .iconst 1, 1, [], 0) :: (6, .if_icmp .ne 7, 3, [13], 0) :: c221_9
/-! 222 SueOrSettle.isShelf(I)Z -/
def c222_15 : List JE := (15, .ireturn, 1, [1], 0) :: []
def c222_14 : List JE := (14, .iconst 0, 1, [], 0) :: c222_15
def c222_0 : List JE := (0, .iload_n 0, 1, [], 0) :: (1, .ifCond .lt 13, 3, [14], 0) :: (4, .iload_n 0, 1, [], 0) :: (5, .bipush 6, 2, [], 0) :: (7, .if_icmp .ge 7, 3, [14], 0) :: (10, .iconst 1, 1, [], 0) :: (11, .goto 4, 3, [15], 0) :: c222_14
/-! 223 SueOrSettle.fraction(JJI)J -/
def c223_47 : List JE := (47, .lreturn, 1, [], 0) :: []
def c223_42 : List JE := (42, .lload 7, 2, [], 0) :: (44, .lload 5, 2, [], 0) :: (46, .ldiv, 1, [], 0) :: c223_47
def c223_28 : List JE := (28, .lstore 7, 2, [], 0) :: (30, .lload 5, 2, [], 0) :: (32, .lconst 1, 1, [], 0) :: (33, .lcmp, 1, [], 0) :: (34, .ifCond .gt 8, 3, [42], 0) :: (37, .lload 7, 2, [], 0) :: (39, .goto 8, 3, [47], 0) :: c223_42
def c223_27 : List JE := (27, .lload_n 2, 1, [], 0) :: c223_28
def c223_12 : List JE := (12, .lload_n 2, 1, [], 0) :: (13, .invokestatic 466, 3, [0, 2, 224, 2182, 2123, 1001], 0) :: (16, .lstore 5, 2, [], 0) :: (18, .iload 4, 2, [], 0) :: (20, .ifCond .ne 7, 3, [27], 0) :: (23, .lload_n 0, 1, [], 0) :: (24, .goto 4, 3, [28], 0) :: c223_27
def c223_11 : List JE := (11, .lload_n 0, 1, [], 0) :: c223_12
def c223_0 : List JE := (0, .lload_n 0, 1, [], 0) :: (1, .lconst 0, 1, [], 0) :: (2, .lcmp, 1, [], 0) :: (3, .ifCond .ge 8, 3, [11], 0) :: (6, .lload_n 0, 1, [], 0) :: (7, .lneg, 1, [], 0) :: (8, .goto 4, 3, [12], 0) :: c223_11
/-! 224 SueOrSettle.commonDivisor(JJ)J -/
def c224_45 : List JE := (45, .lload 4, 2, [], 0) :: (47, .lreturn, 1, [], 0) :: []
def c224_9 : List JE := (9, .iload 8, 2, [], 0) :: (11, .sipush 200, 3, [], 0) :: (14, .if_icmp .ge 31, 3, [45], 0) :: (17, .lload 6, 2, [], 0) :: (19, .lconst 0, 1, [], 0) :: (20, .lcmp, 1, [], 0) :: (21, .ifCond .eq 24, 3, [45], 0) :: (24, .lload 4, 2, [], 0) :: (26, .lload 6, 2, [], 0) :: (28, .lrem, 1, [], 0) :: (29, .lstore 9, 2, [], 0) :: (31, .lload 6, 2, [], 0) :: (33, .lstore 4, 2, [], 0) :: (35, .lload 9, 2, [], 0) :: (37, .lstore 6, 2, [], 0) :: (39, .iinc 8 1, 3, [], 0) :: (42, .goto (-33), 3, [9], 0) :: c224_45
def c224_0 : List JE := (0, .lload_n 0, 1, [], 0) :: (1, .lstore 4, 2, [], 0) :: (3, .lload_n 2, 1, [], 0) :: (4, .lstore 6, 2, [], 0) :: (6, .iconst 0, 1, [], 0) :: (7, .istore 8, 2, [], 0) :: c224_9
/-! 225 SueOrSettle.newFeeling(III)LSueOrSettle$End; -/
def c225_106 : List JE := (106, .new 40, 3, [0, 1143, 1144, 1005], 0) :: (109, .dup, 1, [], 0) :: (110, .aload_n 0, 1, [], 0) :: (111, .getfield 36, 3, [11, 4, 1234, 0], 0) :: (114, .iload_n 2, 1, [], 0) :: (115, .iload_n 3, 1, [], 0) :: (116, .invokespecial 42, 3, [1, 3, 0, 1145, 1146, 1005], 0) :: (119, .areturn, 1, [], 0) :: []
def c225_92 : List JE := (92, .new 482, 3, [8, 3232, 3233, 1016], 0) :: (95, .dup, 1, [], 0) :: (96, .aload_n 0, 1, [], 0) :: (97, .getfield 36, 3, [11, 4, 1234, 0], 0) :: (100, .iload_n 2, 1, [], 0) :: (101, .iload_n 3, 1, [], 0) :: (102, .invokespecial 484, 3, [1, 3, 97, 3234, 3235, 1016], 0) :: (105, .areturn, 1, [], 0) :: c225_106
def c225_78 : List JE := (78, .new 479, 3, [3, 3222, 3223, 1015], 0) :: (81, .dup, 1, [], 0) :: (82, .aload_n 0, 1, [], 0) :: (83, .getfield 36, 3, [11, 4, 1234, 0], 0) :: (86, .iload_n 2, 1, [], 0) :: (87, .iload_n 3, 1, [], 0) :: (88, .invokespecial 481, 3, [1, 3, 17, 3224, 3225, 1015], 0) :: (91, .areturn, 1, [], 0) :: c225_92
def c225_64 : List JE := (64, .new 476, 3, [6, 3212, 3213, 1014], 0) :: (67, .dup, 1, [], 0) :: (68, .aload_n 0, 1, [], 0) :: (69, .getfield 36, 3, [11, 4, 1234, 0], 0) :: (72, .iload_n 2, 1, [], 0) :: (73, .iload_n 3, 1, [], 0) :: (74, .invokespecial 478, 3, [1, 3, 83, 3214, 3215, 1014], 0) :: (77, .areturn, 1, [], 0) :: c225_78
def c225_50 : List JE := (50, .new 473, 3, [2, 3202, 3203, 1013], 0) :: (53, .dup, 1, [], 0) :: (54, .aload_n 0, 1, [], 0) :: (55, .getfield 36, 3, [11, 4, 1234, 0], 0) :: (58, .iload_n 2, 1, [], 0) :: (59, .iload_n 3, 1, [], 0) :: (60, .invokespecial 475, 3, [1, 3, 13, 3204, 3205, 1013], 0) :: (63, .areturn, 1, [], 0) :: c225_64
def c225_36 : List JE := (36, .new 470, 3, [1, 3192, 3193, 1012], 0) :: (39, .dup, 1, [], 0) :: (40, .aload_n 0, 1, [], 0) :: (41, .getfield 36, 3, [11, 4, 1234, 0], 0) :: (44, .iload_n 2, 1, [], 0) :: (45, .iload_n 3, 1, [], 0) :: (46, .invokespecial 472, 3, [1, 3, 9, 3194, 3195, 1012], 0) :: (49, .areturn, 1, [], 0) :: c225_50
def c225_0 : List JE := (0, .iload_n 1, 1, [], 0) :: (1, .tableswitch 105 1 5 #[35, 49, 63, 77, 91], 35, [106, 36, 50, 64, 78, 92], 0) :: c225_36
/-! 226 SueOrSettle.isUnder(LSueOrSettle$End;I)Z -/
def c226_58 : List JE := (58, .aload_n 0, 1, [], 0) :: (59, .instanceof 482, 3, [8, 3232], 0) :: (62, .ireturn, 1, [1], 0) :: []
def c226_53 : List JE := (53, .aload_n 0, 1, [], 0) :: (54, .instanceof 479, 3, [3, 3222], 0) :: (57, .ireturn, 1, [1], 0) :: c226_58
def c226_48 : List JE := (48, .aload_n 0, 1, [], 0) :: (49, .instanceof 476, 3, [6, 3212], 0) :: (52, .ireturn, 1, [1], 0) :: c226_53
def c226_43 : List JE := (43, .aload_n 0, 1, [], 0) :: (44, .instanceof 473, 3, [2, 3202], 0) :: (47, .ireturn, 1, [1], 0) :: c226_48
def c226_38 : List JE := (38, .aload_n 0, 1, [], 0) :: (39, .instanceof 470, 3, [1, 3192], 0) :: (42, .ireturn, 1, [1], 0) :: c226_43
def c226_36 : List JE := (36, .iconst 1, 1, [], 0) :: (37, .ireturn, 1, [1], 0) :: c226_38
def c226_0 : List JE := (0, .iload_n 1, 1, [], 0) :: (1, .tableswitch 57 0 4 #[35, 37, 42, 47, 52], 35, [58, 36, 38, 43, 48, 53], 0) :: c226_36
/-! 227 SueOrSettle.worthOf(LSueOrSettle$Quarrel;LSueOrSettle$End;JI)J -/
def c227_37 : List JE := (37, .lstore 6, 2, [], 0) :: (39, .lload_n 3, 1, [], 0) :: (40, .lload 6, 2, [], 0) :: (42, .lsub, 1, [], 0) :: (43, .ldc2_w 286, 3, [4103], 100) :: (46, .aload_n 0, 1, [], 0) :: (47, .getfield 10, 3, [11, 0, 1230, 0], 0) :: (50, .getfield 135, 3, [10, 1, 1034, 0], 0) :: (53, .lmul, 1, [], 0) :: (54, .iload 5, 2, [], 0) :: (56, .invokestatic 163, 3, [0, 3, 223, 2179, 2180, 1001], 0) :: (59, .lreturn, 1, [], 0) :: []
def c227_36 : List JE := (36, .lconst 0, 1, [], 0) :: c227_37
def c227_17 : List JE := (17, .aload_n 2, 1, [], 0) :: (18, .invokevirtual 488, 3, [9, 0], 0) :: (21, .ifCond .eq 15, 3, [36], 0) :: (24, .aload_n 1, 1, [], 0) :: (25, .aload_n 0, 1, [], 0) :: (26, .getfield 10, 3, [11, 0, 1230, 0], 0) :: (29, .aload_n 2, 1, [], 0) :: (30, .invokevirtual 295, 3, [5, 2, 51, 4, 4116, 4117, 4118, 1011], 0) :: (33, .goto 4, 3, [37], 0) :: c227_36
def c227_0 : List JE := (0, .aload_n 2, 1, [], 0) :: (1, .invokevirtual 485, 3, [9, 0], 0) :: (4, .ifCond .eq 13, 3, [17], 0) :: (7, .lload_n 3, 1, [], 0) :: (8, .ldc2_w 286, 3, [4103], 100) :: (11, .iload 5, 2, [], 0) :: (13, .invokestatic 163, 3, [0, 3, 223, 2179, 2180, 1001], 0) :: (16, .lreturn, 1, [], 0) :: c227_17
/-! 228 SueOrSettle.placeOfChange(III)I -/
def c228_0 : List JE := (0, .bipush 36, 2, [], 0) :: (2, .iload_n 0, 1, [], 0) :: (3, .bipush 100, 2, [], 0) :: (5, .imul, 1, [], 0) :: (6, .iload_n 1, 1, [], 0) :: (7, .iadd, 1, [], 0) :: (8, .iconst 5, 1, [], 0) :: (9, .imul, 1, [], 0) :: (10, .iadd, 1, [], 0) :: (11, .iload_n 2, 1, [], 0) :: (12, .iadd, 1, [], 0) :: (13, .iconst 1, 1, [], 0) :: (14, .iadd, 1, [], 0) :: (15, .ireturn, 1, [], 0) :: []
/-! 229 SueOrSettle.remember(III)V -/
def c229_30 : List JE := (30, .aload_n 0, 1, [], 0) :: (31, .getfield 56, 3, [11, 8, 1238, 0], 0) :: (34, .iconst 3, 1, [], 0) :: (35, .aload_n 0, 1, [], 0) :: (36, .getfield 60, 3, [11, 9, 1239, 0], 0) :: (39, .imul, 1, [], 0) :: (40, .iload_n 1, 1, [], 0) :: (41, .iastore, 1, [], 0) :: (42, .aload_n 0, 1, [], 0) :: (43, .getfield 56, 3, [11, 8, 1238, 0], 0) :: (46, .iconst 3, 1, [], 0) :: (47, .aload_n 0, 1, [], 0) :: (48, .getfield 60, 3, [11, 9, 1239, 0], 0) :: (51, .imul, 1, [], 0) :: (52, .iconst 1, 1, [], 0) :: (53, .iadd, 1, [], 0) :: (54, .iload_n 2, 1, [], 0) :: (55, .iastore, 1, [], 0) :: (56, .aload_n 0, 1, [], 0) :: (57, .getfield 56, 3, [11, 8, 1238, 0], 0) :: (60, .iconst 3, 1, [], 0) :: (61, .aload_n 0, 1, [], 0) :: (62, .getfield 60, 3, [11, 9, 1239, 0], 0) :: (65, .imul, 1, [], 0) :: (66, .iconst 2, 1, [], 0) :: (67, .iadd, 1, [], 0) :: (68, .iload_n 3, 1, [], 0) :: (69, .iastore, 1, [], 0) :: (70, .aload_n 0, 1, [], 0) :: (71, .dup, 1, [], 0) :: (72, .getfield 60, 3, [11, 9, 1239, 0], 0) :: (75, .iconst 1, 1, [], 0) :: (76, .iadd, 1, [], 0) :: (77, .putfield 60, 3, [11, 9, 1239, 0], 0) :: (80, .aload_n 0, 1, [], 0) :: (81, .iconst 0, 1, [], 0) :: (82, .putfield 63, 3, [11, 10, 2000, 0], 0) :: (85, .return_, 1, [], 0) :: []
def c229_0 : List JE := (0, .aload_n 0, 1, [], 0) :: (1, .getfield 60, 3, [11, 9, 1239, 0], 0) :: (4, .bipush 40, 2, [], 0) :: (6, .if_icmp .lt 24, 3, [30], 0) :: (9, .aload_n 0, 1, [], 0) :: (10, .getfield 56, 3, [11, 8, 1238, 0], 0) :: (13, .iconst 3, 1, [], 0) :: (14, .aload_n 0, 1, [], 0) :: (15, .getfield 56, 3, [11, 8, 1238, 0], 0) :: (18, .iconst 0, 1, [], 0) :: (19, .bipush 117, 2, [], 0) :: (21, .invokestatic 449, 3, [7, 2099, 2101, 2100, 1009], 0) :: (24, .aload_n 0, 1, [], 0) :: (25, .bipush 39, 2, [], 0) :: (27, .putfield 60, 3, [11, 9, 1239, 0], 0) :: c229_30
/-! 230 SueOrSettle.restore(II)V -/
def c230_74 : List JE := (74, .return_, 1, [], 0) :: []
def c230_16 : List JE := (16, .iload_n 1, 1, [], 0) :: (17, .bipush 36, 2, [], 0) :: (19, .isub, 1, [], 0) :: (20, .iconst 5, 1, [], 0) :: (21, .idiv, 1, [], 0) :: (22, .istore_n 3, 1, [], 0) :: (23, .iload_n 1, 1, [], 0) :: (24, .bipush 36, 2, [], 0) :: (26, .isub, 1, [], 0) :: (27, .iconst 5, 1, [], 0) :: (28, .irem, 1, [], 0) :: (29, .iconst 1, 1, [], 0) :: (30, .isub, 1, [], 0) :: (31, .istore 4, 2, [], 0) :: (33, .aload_n 0, 1, [], 0) :: (34, .iload_n 3, 1, [], 0) :: (35, .bipush 100, 2, [], 0) :: (37, .idiv, 1, [], 0) :: (38, .invokevirtual 191, 3, [5, 1, 219, 11, 3112, 3114, 21, 1001], 0) :: (41, .astore 5, 2, [], 0) :: (43, .aload 5, 2, [], 0) :: (45, .ifnull 29, 3, [74], 0) :: (48, .aload 5, 2, [], 0) :: (50, .iload_n 3, 1, [], 0) :: (51, .bipush 100, 2, [], 0) :: (53, .irem, 1, [], 0) :: (54, .iload 4, 2, [], 0) :: (56, .invokevirtual 221, 3, [5, 2, 32, 4, 3151, 3152, 3153, 1011], 0) :: (59, .ifCond .eq 15, 3, [74], 0) :: (62, .aload 5, 2, [], 0) :: (64, .iload_n 3, 1, [], 0) :: (65, .bipush 100, 2, [], 0) :: (67, .irem, 1, [], 0) :: (68, .iload 4, 2, [], 0) :: (70, .iload_n 2, 1, [], 0) :: (71, .invokevirtual 230, 3, [5, 3, 35, 4, 3165, 3166, 3167, 1011], 0) :: c230_74
def c230_0 : List JE := (0, .iload_n 1, 1, [], 0) :: (1, .bipush 36, 2, [], 0) :: (3, .if_icmp .ge 13, 3, [16], 0) :: (6, .aload_n 0, 1, [], 0) :: (7, .getfield 10, 3, [11, 0, 1230, 0], 0) :: (10, .iload_n 1, 1, [], 0) :: (11, .iload_n 2, 1, [], 0) :: (12, .invokevirtual 124, 3, [5, 2, 149, 10, 2091, 2092, 2093, 1002], 0) :: (15, .return_, 1, [], 0) :: c230_16
/-! 231 SueOrSettle.edgeOfWeight(LSueOrSettle$Quarrel;II)I -/
def c231_155 : List JE := (155, .aload_n 0, 1, [], 0) :: (156, .getfield 10, 3, [11, 0, 1230, 0], 0) :: (159, .iload_n 2, 1, [], 0) :: (160, .iload 4, 2, [], 0) :: (162, .invokevirtual 124, 3, [5, 2, 149, 10, 2091, 2092, 2093, 1002], 0) :: (165, .iload 6, 2, [], 0) :: (167, .ireturn, 1, [], 0) :: []
def c231_149 : List JE := (149, .iinc 8 1, 3, [], 0) :: (152, .goto (-87), 3, [65], 0) :: c231_155
def c231_118 : List JE := (118, .aload_n 1, 1, [], 0) :: (119, .aload_n 0, 1, [], 0) :: (120, .getfield 10, 3, [11, 0, 1230, 0], 0) :: (123, .aload_n 0, 1, [], 0) :: (124, .getfield 45, 3, [11, 5, 1235, 0], 0) :: (127, .iconst 0, 1, [], 0) :: (128, .invokevirtual 257, 3, [5, 3, 47, 4, 4051, 4052, 4053, 1011], 0) :: (131, .pop2, 1, [], 0) :: (132, .aload_n 1, 1, [], 0) :: (133, .aload_n 1, 1, [], 0) :: (134, .getfield 302, 3, [4, 1, 3045, 0], 0) :: (137, .invokevirtual 491, 3, [5, 1, 38, 4, 4215, 4216, 4217, 1011], 0) :: (140, .iload 5, 2, [], 0) :: (142, .if_icmp .eq 7, 3, [149], 0) :: (145, .iload 8, 2, [], 0) :: (147, .istore 6, 2, [], 0) :: c231_149
def c231_102 : List JE := (102, .invokevirtual 124, 3, [5, 2, 149, 10, 2091, 2092, 2093, 1002], 0) :: (105, .aload_n 0, 1, [], 0) :: (106, .getfield 10, 3, [11, 0, 1230, 0], 0) :: (109, .invokevirtual 131, 3, [5, 0, 153, 10, 2106, 2107, 2108, 1002], 0) :: (112, .ifCond .ne 6, 3, [118], 0) :: (115, .goto 40, 3, [155], 0) :: c231_118
def c231_97 : List JE := (97, .iload 4, 2, [], 0) :: (99, .iload 8, 2, [], 0) :: (101, .isub, 1, [], 0) :: c231_102
def c231_65 : List JE := (65, .iload 8, 2, [], 0) :: (67, .iload 7, 2, [], 0) :: (69, .if_icmp .gt 86, 3, [155], 0) :: (72, .iload 6, 2, [], 0) :: (74, .bipush (-2), 2, [], 0) :: (76, .if_icmp .ne 79, 3, [155], 0) :: (79, .aload_n 0, 1, [], 0) :: (80, .getfield 10, 3, [11, 0, 1230, 0], 0) :: (83, .iload_n 2, 1, [], 0) :: (84, .iload_n 3, 1, [], 0) :: (85, .iconst 1, 1, [], 0) :: (86, .if_icmp .ne 11, 3, [97], 0) :: (89, .iload 4, 2, [], 0) :: (91, .iload 8, 2, [], 0) :: (93, .iadd, 1, [], 0) :: (94, .goto 8, 3, [102], 0) :: c231_97
def c231_57 : List JE := (57, .invokestatic 494, 3, [0, 2, 381, 4219, 3007, 1010], 0) :: (60, .istore 7, 2, [], 0) :: (62, .iconst 1, 1, [], 0) :: (63, .istore 8, 2, [], 0) :: c231_65
def c231_53 : List JE := (53, .iload 4, 2, [], 0) :: (55, .iconst 1, 1, [], 0) :: (56, .isub, 1, [], 0) :: c231_57
def c231_0 : List JE := (0, .aload_n 0, 1, [], 0) :: (1, .getfield 10, 3, [11, 0, 1230, 0], 0) :: (4, .iload_n 2, 1, [], 0) :: (5, .invokevirtual 121, 3, [5, 1, 148, 10, 2087, 2088, 2089, 1002], 0) :: (8, .istore 4, 2, [], 0) :: (10, .aload_n 1, 1, [], 0) :: (11, .aload_n 0, 1, [], 0) :: (12, .getfield 10, 3, [11, 0, 1230, 0], 0) :: (15, .aload_n 0, 1, [], 0) :: (16, .getfield 45, 3, [11, 5, 1235, 0], 0) :: (19, .iconst 0, 1, [], 0) :: (20, .invokevirtual 257, 3, [5, 3, 47, 4, 4051, 4052, 4053, 1011], 0) :: (23, .pop2, 1, [], 0) :: (24, .aload_n 1, 1, [], 0) :: (25, .aload_n 1, 1, [], 0) :: (26, .getfield 302, 3, [4, 1, 3045, 0], 0) :: (29, .invokevirtual 491, 3, [5, 1, 38, 4, 4215, 4216, 4217, 1011], 0) :: (32, .istore 5, 2, [], 0) :: (34, .bipush (-2), 2, [], 0) :: (36, .istore 6, 2, [], 0) :: (38, .bipush 40, 2, [], 0) :: (40, .iload_n 3, 1, [], 0) :: (41, .iconst 1, 1, [], 0) :: (42, .if_icmp .ne 11, 3, [53], 0) :: (45, .bipush 99, 2, [], 0) :: (47, .iload 4, 2, [], 0) :: (49, .isub, 1, [], 0) :: (50, .goto 7, 3, [57], 0) :: c231_53
/-! 232 SueOrSettle.isDoubt(II)Z -/
def c232_59 : List JE := (59, .ireturn, 1, [1], 0) :: []
def c232_58 : List JE := (58, .iconst 0, 1, [], 0) :: c232_59
def c232_0 : List JE := (0, .aload_n 0, 1, [], 0) :: (1, .getfield 10, 3, [11, 0, 1230, 0], 0) :: (4, .iload_n 1, 1, [], 0) :: (5, .invokevirtual 102, 3, [5, 1, 140, 10, 2061, 2062, 2063, 1002], 0) :: (8, .ifCond .eq 50, 3, [58], 0) :: (11, .aload_n 0, 1, [], 0) :: (12, .getfield 10, 3, [11, 0, 1230, 0], 0) :: (15, .iload_n 1, 1, [], 0) :: (16, .invokevirtual 106, 3, [5, 1, 142, 10, 2065, 2066, 2067, 1002], 0) :: (19, .ifCond .ne 39, 3, [58], 0) :: (22, .iload_n 2, 1, [], 0) :: (23, .ifCond .le 35, 3, [58], 0) :: (26, .iload_n 2, 1, [], 0) :: (27, .bipush 100, 2, [], 0) :: (29, .idiv, 1, [], 0) :: (30, .iconst 1, 1, [], 0) :: (31, .if_icmp .lt 27, 3, [58], 0) :: (34, .iload_n 2, 1, [], 0) :: (35, .bipush 100, 2, [], 0) :: (37, .idiv, 1, [], 0) :: (38, .bipush 99, 2, [], 0) :: (40, .if_icmp .gt 18, 3, [58], 0) :: (43, .iload_n 2, 1, [], 0) :: (44, .bipush 100, 2, [], 0) :: (46, .idiv, 1, [], 0) :: (47, .iload_n 2, 1, [], 0) :: (48, .bipush 100, 2, [], 0) :: (50, .irem, 1, [], 0) :: (51, .if_icmp .gt 7, 3, [58], 0) :: (54, .iconst 1, 1, [], 0) :: (55, .goto 4, 3, [59], 0) :: c232_58
/-! 233 SueOrSettle.isBigWithin(II)Z -/
def c233_46 : List JE := (46, .istore 5, 2, [], 0) :: (48, .aload_n 0, 1, [], 0) :: (49, .getfield 10, 3, [11, 0, 1230, 0], 0) :: (52, .iload_n 3, 1, [], 0) :: (53, .iload 4, 2, [], 0) :: (55, .invokevirtual 124, 3, [5, 2, 149, 10, 2091, 2092, 2093, 1002], 0) :: (58, .iload 5, 2, [], 0) :: (60, .ireturn, 1, [1], 0) :: []
def c233_45 : List JE := (45, .iconst 0, 1, [], 0) :: c233_46
def c233_0 : List JE := (0, .iload_n 1, 1, [], 0) :: (1, .iconst 0, 1, [], 0) :: (2, .iconst 0, 1, [], 0) :: (3, .invokestatic 117, 3, [0, 3, 147, 2086, 2055, 1002], 0) :: (6, .istore_n 3, 1, [], 0) :: (7, .aload_n 0, 1, [], 0) :: (8, .getfield 10, 3, [11, 0, 1230, 0], 0) :: (11, .iload_n 3, 1, [], 0) :: (12, .invokevirtual 121, 3, [5, 1, 148, 10, 2087, 2088, 2089, 1002], 0) :: (15, .istore 4, 2, [], 0) :: (17, .aload_n 0, 1, [], 0) :: (18, .getfield 10, 3, [11, 0, 1230, 0], 0) :: (21, .iload_n 3, 1, [], 0) :: (22, .iload_n 2, 1, [], 0) :: (23, .bipush 100, 2, [], 0) :: (25, .irem, 1, [], 0) :: (26, .invokevirtual 124, 3, [5, 2, 149, 10, 2091, 2092, 2093, 1002], 0) :: (29, .aload_n 0, 1, [], 0) :: (30, .getfield 10, 3, [11, 0, 1230, 0], 0) :: (33, .invokevirtual 499, 3, [5, 0, 152, 10, 5012, 2111, 2112, 1002], 0) :: (36, .lconst 0, 1, [], 0) :: (37, .lcmp, 1, [], 0) :: (38, .ifCond .ne 7, 3, [45], 0) :: (41, .iconst 1, 1, [], 0) :: (42, .goto 4, 3, [46], 0) :: c233_45
/-! 234 SueOrSettle.timesHeld(LSueOrSettle$Quarrel;II)I -/
def c234_72 : List JE := (72, .iload 4, 2, [], 0) :: (74, .ireturn, 1, [], 0) :: []
def c234_66 : List JE := (66, .iinc 5 1, 3, [], 0) :: (69, .goto (-60), 3, [9], 0) :: c234_72
def c234_9 : List JE := (9, .iload 5, 2, [], 0) :: (11, .iload_n 3, 1, [], 0) :: (12, .bipush 100, 2, [], 0) :: (14, .irem, 1, [], 0) :: (15, .if_icmp .gt 57, 3, [72], 0) :: (18, .aload_n 0, 1, [], 0) :: (19, .getfield 10, 3, [11, 0, 1230, 0], 0) :: (22, .iload_n 2, 1, [], 0) :: (23, .iload 5, 2, [], 0) :: (25, .invokevirtual 124, 3, [5, 2, 149, 10, 2091, 2092, 2093, 1002], 0) :: (28, .aload_n 0, 1, [], 0) :: (29, .getfield 10, 3, [11, 0, 1230, 0], 0) :: (32, .invokevirtual 131, 3, [5, 0, 153, 10, 2106, 2107, 2108, 1002], 0) :: (35, .ifCond .eq 31, 3, [66], 0) :: (38, .aload_n 1, 1, [], 0) :: (39, .aload_n 0, 1, [], 0) :: (40, .getfield 10, 3, [11, 0, 1230, 0], 0) :: (43, .aload_n 0, 1, [], 0) :: (44, .getfield 45, 3, [11, 5, 1235, 0], 0) :: (47, .iconst 0, 1, [], 0) :: (48, .invokevirtual 257, 3, [5, 3, 47, 4, 4051, 4052, 4053, 1011], 0) :: (51, .aload_n 1, 1, [], 0) :: (52, .aload_n 0, 1, [], 0) :: (53, .getfield 45, 3, [11, 5, 1235, 0], 0) :: (56, .invokevirtual 502, 3, [5, 1, 49, 4, 5017, 4148, 4149, 1011], 0) :: (59, .lcmp, 1, [], 0) :: (60, .ifCond .ne 6, 3, [66], 0) :: (63, .iinc 4 1, 3, [], 0) :: c234_66
def c234_0 : List JE := (0, .iconst 0, 1, [], 0) :: (1, .istore 4, 2, [], 0) :: (3, .iload_n 3, 1, [], 0) :: (4, .bipush 100, 2, [], 0) :: (6, .idiv, 1, [], 0) :: (7, .istore 5, 2, [], 0) :: c234_9
/-! 235 SueOrSettle.timesSteady(LSueOrSettle$Quarrel;II)I -/
def c235_128 : List JE := (128, .aload_n 1, 1, [], 0) :: (129, .aload_n 0, 1, [], 0) :: (130, .getfield 83, 3, [11, 15, 2005, 0], 0) :: (133, .iconst 4, 1, [], 0) :: (134, .iload 5, 2, [], 0) :: (136, .imul, 1, [], 0) :: (137, .invokevirtual 513, 3, [5, 2, 41, 4, 5030, 5031, 5032, 1011], 0) :: (140, .aload_n 0, 1, [], 0) :: (141, .getfield 86, 3, [11, 16, 2006, 0], 0) :: (144, .iload 5, 2, [], 0) :: (146, .iaload, 1, [], 0) :: (147, .ireturn, 1, [], 0) :: []
def c235_122 : List JE := (122, .iinc 6 1, 3, [], 0) :: (125, .goto (-31), 3, [94], 0) :: c235_128
def c235_94 : List JE := (94, .iload 6, 2, [], 0) :: (96, .iload 4, 2, [], 0) :: (98, .if_icmp .ge 30, 3, [128], 0) :: (101, .aload_n 0, 1, [], 0) :: (102, .getfield 86, 3, [11, 16, 2006, 0], 0) :: (105, .iload 6, 2, [], 0) :: (107, .iaload, 1, [], 0) :: (108, .aload_n 0, 1, [], 0) :: (109, .getfield 86, 3, [11, 16, 2006, 0], 0) :: (112, .iload 5, 2, [], 0) :: (114, .iaload, 1, [], 0) :: (115, .if_icmp .le 7, 3, [122], 0) :: (118, .iload 6, 2, [], 0) :: (120, .istore 5, 2, [], 0) :: c235_122
def c235_88 : List JE := (88, .iconst 0, 1, [], 0) :: (89, .istore 5, 2, [], 0) :: (91, .iconst 1, 1, [], 0) :: (92, .istore 6, 2, [], 0) :: c235_94
def c235_82 : List JE := (82, .iinc 5 1, 3, [], 0) :: (85, .goto (-76), 3, [9], 0) :: c235_88
def c235_9 : List JE := (9, .iload 5, 2, [], 0) :: (11, .iload_n 3, 1, [], 0) :: (12, .bipush 100, 2, [], 0) :: (14, .irem, 1, [], 0) :: (15, .if_icmp .gt 73, 3, [88], 0) :: (18, .iload 4, 2, [], 0) :: (20, .bipush 99, 2, [], 0) :: (22, .if_icmp .ge 66, 3, [88], 0) :: (25, .aload_n 0, 1, [], 0) :: (26, .getfield 10, 3, [11, 0, 1230, 0], 0) :: (29, .iload_n 2, 1, [], 0) :: (30, .iload 5, 2, [], 0) :: (32, .invokevirtual 124, 3, [5, 2, 149, 10, 2091, 2092, 2093, 1002], 0) :: (35, .aload_n 0, 1, [], 0) :: (36, .getfield 10, 3, [11, 0, 1230, 0], 0) :: (39, .invokevirtual 131, 3, [5, 0, 153, 10, 2106, 2107, 2108, 1002], 0) :: (42, .ifCond .eq 40, 3, [82], 0) :: (45, .aload_n 1, 1, [], 0) :: (46, .aload_n 0, 1, [], 0) :: (47, .getfield 10, 3, [11, 0, 1230, 0], 0) :: (50, .aload_n 0, 1, [], 0) :: (51, .getfield 45, 3, [11, 5, 1235, 0], 0) :: (54, .iconst 0, 1, [], 0) :: (55, .invokevirtual 257, 3, [5, 3, 47, 4, 4051, 4052, 4053, 1011], 0) :: (58, .pop2, 1, [], 0) :: (59, .aload_n 1, 1, [], 0) :: (60, .aload_n 0, 1, [], 0) :: (61, .getfield 83, 3, [11, 15, 2005, 0], 0) :: (64, .iconst 4, 1, [], 0) :: (65, .iload 4, 2, [], 0) :: (67, .imul, 1, [], 0) :: (68, .invokevirtual 506, 3, [5, 2, 40, 4, 5022, 5023, 5024, 1011], 0) :: (71, .iload 4, 2, [], 0) :: (73, .aload_n 0, 1, [], 0) :: (74, .iload 4, 2, [], 0) :: (76, .invokevirtual 510, 3, [5, 1, 236, 11, 5026, 5028, 40, 1001], 0) :: (79, .iadd, 1, [], 0) :: (80, .istore 4, 2, [], 0) :: c235_82
def c235_0 : List JE := (0, .iconst 0, 1, [], 0) :: (1, .istore 4, 2, [], 0) :: (3, .iload_n 3, 1, [], 0) :: (4, .bipush 100, 2, [], 0) :: (6, .idiv, 1, [], 0) :: (7, .istore 5, 2, [], 0) :: c235_9
/-! 236 SueOrSettle.countPlan(I)I -/
def c236_80 : List JE := (80, .aload_n 0, 1, [], 0) :: (81, .getfield 86, 3, [11, 16, 2006, 0], 0) :: (84, .iload_n 1, 1, [], 0) :: (85, .iconst 1, 1, [], 0) :: (86, .iastore, 1, [], 0) :: (87, .iconst 1, 1, [], 0) :: (88, .ireturn, 1, [], 0) :: []
def c236_74 : List JE := (74, .iinc 2 1, 3, [], 0) :: (77, .goto (-75), 3, [2], 0) :: c236_80
def c236_58 : List JE := (58, .iload_n 3, 1, [], 0) :: (59, .ifCond .eq 15, 3, [74], 0) :: (62, .aload_n 0, 1, [], 0) :: (63, .getfield 86, 3, [11, 16, 2006, 0], 0) :: (66, .iload_n 2, 1, [], 0) :: (67, .dup2, 1, [], 0) :: (68, .iaload, 1, [], 0) :: (69, .iconst 1, 1, [], 0) :: (70, .iadd, 1, [], 0) :: (71, .iastore, 1, [], 0) :: (72, .iconst 0, 1, [], 0) :: (73, .ireturn, 1, [], 0) :: c236_74
def c236_50 : List JE := (50, .iand, 1, [], 0) :: (51, .istore_n 3, 1, [], 0) :: (52, .iinc 4 1, 3, [], 0) :: (55, .goto (-43), 3, [12], 0) :: c236_58
def c236_49 : List JE := (49, .iconst 0, 1, [], 0) :: c236_50
def c236_12 : List JE := (12, .iload 4, 2, [], 0) :: (14, .iconst 4, 1, [], 0) :: (15, .if_icmp .ge 43, 3, [58], 0) :: (18, .iload_n 3, 1, [], 0) :: (19, .aload_n 0, 1, [], 0) :: (20, .getfield 83, 3, [11, 15, 2005, 0], 0) :: (23, .iconst 4, 1, [], 0) :: (24, .iload_n 2, 1, [], 0) :: (25, .imul, 1, [], 0) :: (26, .iload 4, 2, [], 0) :: (28, .iadd, 1, [], 0) :: (29, .laload, 1, [], 0) :: (30, .aload_n 0, 1, [], 0) :: (31, .getfield 83, 3, [11, 15, 2005, 0], 0) :: (34, .iconst 4, 1, [], 0) :: (35, .iload_n 1, 1, [], 0) :: (36, .imul, 1, [], 0) :: (37, .iload 4, 2, [], 0) :: (39, .iadd, 1, [], 0) :: (40, .laload, 1, [], 0) :: (41, .lcmp, 1, [], 0) :: (42, .ifCond .ne 7, 3, [49], 0) :: (45, .iconst 1, 1, [], 0) :: (46, .goto 4, 3, [50], 0) :: c236_49
def c236_2 : List JE := (2, .iload_n 2, 1, [], 0) :: (3, .iload_n 1, 1, [], 0) :: (4, .if_icmp .ge 76, 3, [80], 0) :: (7, .iconst 1, 1, [], 0) :: (8, .istore_n 3, 1, [], 0) :: (9, .iconst 0, 1, [], 0) :: (10, .istore 4, 2, [], 0) :: c236_12
def c236_0 : List JE := (0, .iconst 0, 1, [], 0) :: (1, .istore_n 2, 1, [], 0) :: c236_2
/-! 237 SueOrSettle.leastWorth(LSueOrSettle$Quarrel;III)J -/
def c237_123 : List JE := (123, .lload 5, 2, [], 0) :: (125, .lload 7, 2, [], 0) :: (127, .iload 4, 2, [], 0) :: (129, .invokestatic 163, 3, [0, 3, 223, 2179, 2180, 1001], 0) :: (132, .lreturn, 1, [], 0) :: []
def c237_117 : List JE := (117, .iinc 11 1, 3, [], 0) :: (120, .goto (-105), 3, [15], 0) :: c237_123
def c237_100 : List JE := (100, .lload 12, 2, [], 0) :: (102, .lstore 5, 2, [], 0) :: (104, .aload_n 0, 1, [], 0) :: (105, .getfield 10, 3, [11, 0, 1230, 0], 0) :: (108, .getfield 135, 3, [10, 1, 1034, 0], 0) :: (111, .lstore 7, 2, [], 0) :: (113, .lload 14, 2, [], 0) :: (115, .lstore 9, 2, [], 0) :: c237_117
def c237_15 : List JE := (15, .iload 11, 2, [], 0) :: (17, .iload_n 3, 1, [], 0) :: (18, .bipush 100, 2, [], 0) :: (20, .irem, 1, [], 0) :: (21, .if_icmp .gt 102, 3, [123], 0) :: (24, .aload_n 0, 1, [], 0) :: (25, .getfield 10, 3, [11, 0, 1230, 0], 0) :: (28, .iload_n 2, 1, [], 0) :: (29, .iconst 0, 1, [], 0) :: (30, .iconst 0, 1, [], 0) :: (31, .invokestatic 117, 3, [0, 3, 147, 2086, 2055, 1002], 0) :: (34, .iload 11, 2, [], 0) :: (36, .invokevirtual 124, 3, [5, 2, 149, 10, 2091, 2092, 2093, 1002], 0) :: (39, .aload_n 0, 1, [], 0) :: (40, .getfield 10, 3, [11, 0, 1230, 0], 0) :: (43, .invokevirtual 131, 3, [5, 0, 153, 10, 2106, 2107, 2108, 1002], 0) :: (46, .ifCond .eq 71, 3, [117], 0) :: (49, .aload_n 1, 1, [], 0) :: (50, .aload_n 0, 1, [], 0) :: (51, .getfield 10, 3, [11, 0, 1230, 0], 0) :: (54, .aload_n 0, 1, [], 0) :: (55, .getfield 45, 3, [11, 5, 1235, 0], 0) :: (58, .invokevirtual 274, 3, [5, 2, 48, 4, 4143, 4144, 4145, 1011], 0) :: (61, .ldc2_w 286, 3, [4103], 100) :: (64, .ldiv, 1, [], 0) :: (65, .lstore 12, 2, [], 0) :: (67, .aload_n 0, 1, [], 0) :: (68, .getfield 10, 3, [11, 0, 1230, 0], 0) :: (71, .iload_n 2, 1, [], 0) :: (72, .iconst 0, 1, [], 0) :: (73, .invokevirtual 516, 3, [5, 2, 150, 10, 5043, 2119, 2120, 1002], 0) :: (76, .i2l, 1, [], 0) :: (77, .lstore 14, 2, [], 0) :: (79, .lload 9, 2, [], 0) :: (81, .lconst 0, 1, [], 0) :: (82, .lcmp, 1, [], 0) :: (83, .ifCond .eq 17, 3, [100], 0) :: (86, .lload 12, 2, [], 0) :: (88, .lload 9, 2, [], 0) :: (90, .lmul, 1, [], 0) :: (91, .lload 5, 2, [], 0) :: (93, .lload 14, 2, [], 0) :: (95, .lmul, 1, [], 0) :: (96, .lcmp, 1, [], 0) :: (97, .ifCond .ge 20, 3, [117], 0) :: c237_100
def c237_0 : List JE := (0, .lconst 0, 1, [], 0) :: (1, .lstore 5, 2, [], 0) :: (3, .lconst 1, 1, [], 0) :: (4, .lstore 7, 2, [], 0) :: (6, .lconst 0, 1, [], 0) :: (7, .lstore 9, 2, [], 0) :: (9, .iload_n 3, 1, [], 0) :: (10, .bipush 100, 2, [], 0) :: (12, .idiv, 1, [], 0) :: (13, .istore 11, 2, [], 0) :: c237_15
/-! 238 SueOrSettle.daysFrom(III)I -/
def c238_112 : List JE := (112, .iload 4, 2, [], 0) :: (114, .ireturn, 1, [], 0) :: []
def c238_88 : List JE := (88, .aload_n 0, 1, [], 0) :: (89, .getfield 69, 3, [11, 11, 2001, 0], 0) :: (92, .iload 4, 2, [], 0) :: (94, .iload 7, 2, [], 0) :: (96, .iload 8, 2, [], 0) :: (98, .iload 9, 2, [], 0) :: (100, .invokevirtual 394, 3, [5, 4, 135, 9, 5225, 5226, 5227, 1006], 0) :: (103, .iinc 4 1, 3, [], 0) :: (106, .iinc 5 3, 3, [], 0) :: (109, .goto (-103), 3, [6], 0) :: c238_112
def c238_6 : List JE := (6, .iload 4, 2, [], 0) :: (8, .iload_n 3, 1, [], 0) :: (9, .if_icmp .ge 103, 3, [112], 0) :: (12, .iload 5, 2, [], 0) :: (14, .ifCond .lt 98, 3, [112], 0) :: (17, .iload 5, 2, [], 0) :: (19, .aload_n 0, 1, [], 0) :: (20, .getfield 76, 3, [11, 13, 2003, 0], 0) :: (23, .iload_n 1, 1, [], 0) :: (24, .iaload, 1, [], 0) :: (25, .iconst 3, 1, [], 0) :: (26, .isub, 1, [], 0) :: (27, .if_icmp .gt 85, 3, [112], 0) :: (30, .bipush 60, 2, [], 0) :: (32, .iload_n 1, 1, [], 0) :: (33, .imul, 1, [], 0) :: (34, .iload 5, 2, [], 0) :: (36, .iadd, 1, [], 0) :: (37, .istore 6, 2, [], 0) :: (39, .aload_n 0, 1, [], 0) :: (40, .getfield 79, 3, [11, 14, 2004, 0], 0) :: (43, .iload 6, 2, [], 0) :: (45, .laload, 1, [], 0) :: (46, .l2i, 1, [], 0) :: (47, .istore 7, 2, [], 0) :: (49, .aload_n 0, 1, [], 0) :: (50, .getfield 79, 3, [11, 14, 2004, 0], 0) :: (53, .iload 6, 2, [], 0) :: (55, .iconst 1, 1, [], 0) :: (56, .iadd, 1, [], 0) :: (57, .laload, 1, [], 0) :: (58, .l2i, 1, [], 0) :: (59, .istore 8, 2, [], 0) :: (61, .aload_n 0, 1, [], 0) :: (62, .getfield 79, 3, [11, 14, 2004, 0], 0) :: (65, .iload 6, 2, [], 0) :: (67, .iconst 2, 1, [], 0) :: (68, .iadd, 1, [], 0) :: (69, .laload, 1, [], 0) :: (70, .l2i, 1, [], 0) :: (71, .istore 9, 2, [], 0) :: (73, .iload 7, 2, [], 0) :: (75, .iload 8, 2, [], 0) :: (77, .iload 9, 2, [], 0) :: (79, .invokestatic 391, 3, [0, 3, 134, 5222, 5223, 1006], 0) :: (82, .ifCond .ne 6, 3, [88], 0) :: (85, .iload 4, 2, [], 0) :: (87, .ireturn, 1, [], 0) :: c238_88
def c238_0 : List JE := (0, .iconst 0, 1, [], 0) :: (1, .istore 4, 2, [], 0) :: (3, .iload_n 2, 1, [], 0) :: (4, .istore 5, 2, [], 0) :: c238_6
/-! 239 SueOrSettle.refusalOfElement(II)I -/
def c239_56 : List JE := (56, .ireturn, 1, [], 0) :: []
def c239_55 : List JE := (55, .iconst 0, 1, [], 0) :: c239_56
def c239_50 : List JE := (50, .bipush (-13), 2, [], 0) :: (52, .goto 4, 3, [56], 0) :: c239_55
def c239_36 : List JE := (36, .iload_n 2, 1, [], 0) :: (37, .ifCond .lt 13, 3, [50], 0) :: (40, .iload_n 2, 1, [], 0) :: (41, .aload_n 0, 1, [], 0) :: (42, .getfield 76, 3, [11, 13, 2003, 0], 0) :: (45, .iload_n 1, 1, [], 0) :: (46, .iaload, 1, [], 0) :: (47, .if_icmp .lt 8, 3, [55], 0) :: c239_50
def c239_22 : List JE := (22, .aload_n 0, 1, [], 0) :: (23, .getfield 73, 3, [11, 12, 2002, 0], 0) :: (26, .iload_n 1, 1, [], 0) :: (27, .iaload, 1, [], 0) :: (28, .bipush 10, 2, [], 0) :: (30, .if_icmp .lt 6, 3, [36], 0) :: (33, .bipush (-12), 2, [], 0) :: (35, .ireturn, 1, [], 0) :: c239_36
def c239_9 : List JE := (9, .aload_n 0, 1, [], 0) :: (10, .getfield 73, 3, [11, 12, 2002, 0], 0) :: (13, .iload_n 1, 1, [], 0) :: (14, .iaload, 1, [], 0) :: (15, .iconst (-1), 1, [], 0) :: (16, .if_icmp .ne 6, 3, [22], 0) :: (19, .bipush (-11), 2, [], 0) :: (21, .ireturn, 1, [], 0) :: c239_22
def c239_0 : List JE := (0, .iload_n 1, 1, [], 0) :: (1, .invokestatic 398, 3, [0, 1, 222, 5233, 5234, 1001], 0) :: (4, .ifCond .ne 5, 3, [9], 0) :: (7, .iconst (-1), 1, [], 0) :: (8, .ireturn, 1, [], 0) :: c239_9
/-! 240 SueOrSettle.lowestBits(IJ)J -/
def c240_59 : List JE := (59, .lreturn, 1, [], 0) :: []
def c240_58 : List JE := (58, .lconst 0, 1, [], 0) :: c240_59
def c240_48 : List JE := (48, .lload_n 1, 1, [], 0) :: (49, .lconst 0, 1, [], 0) :: (50, .lcmp, 1, [], 0) :: (51, .ifCond .eq 7, 3, [58], 0) :: (54, .lconst 1, 1, [], 0) :: (55, .goto 4, 3, [59], 0) :: c240_58
def c240_46 : List JE := (46, .lload_n 1, 1, [], 0) :: (47, .lreturn, 1, [], 0) :: c240_48
def c240_42 : List JE := (42, .lload_n 1, 1, [], 0) :: (43, .l2i, 1, [], 0) :: (44, .i2l, 1, [], 0) :: (45, .lreturn, 1, [], 0) :: c240_46
def c240_37 : List JE := (37, .lload_n 1, 1, [], 0) :: (38, .l2i, 1, [], 0) :: (39, .i2s, 1, [], 0) :: (40, .i2l, 1, [], 0) :: (41, .lreturn, 1, [], 0) :: c240_42
def c240_32 : List JE := (32, .lload_n 1, 1, [], 0) :: (33, .l2i, 1, [], 0) :: (34, .i2b, 1, [], 0) :: (35, .i2l, 1, [], 0) :: (36, .lreturn, 1, [], 0) :: c240_37
def c240_0 : List JE := (0, .iload_n 0, 1, [], 0) :: (1, .tableswitch 47 0 3 #[31, 36, 41, 45], 31, [48, 32, 37, 42, 46], 0) :: c240_32
/-! 241 SueOrSettleModel.<init>()V -/
def c241_0 : List JE := (0, .aload_n 0, 1, [], 0) :: (1, .invokespecial 3, 3, [6, 6195, 1023, 1024], 0) :: (4, .aload_n 0, 1, [], 0) :: (5, .iconst 4, 1, [], 0) :: (6, .newarray .int, 2, [], 0) :: (8, .putfield 9, 3, [12, 2, 6197, 0], 0) :: (11, .aload_n 0, 1, [], 0) :: (12, .iconst 4, 1, [], 0) :: (13, .newarray .int, 2, [], 0) :: (15, .dup, 1, [], 0) :: (16, .iconst 0, 1, [], 0) :: (17, .iconst (-1), 1, [], 0) :: (18, .iastore, 1, [], 0) :: (19, .dup, 1, [], 0) :: (20, .iconst 1, 1, [], 0) :: (21, .iconst (-1), 1, [], 0) :: (22, .iastore, 1, [], 0) :: (23, .dup, 1, [], 0) :: (24, .iconst 2, 1, [], 0) :: (25, .iconst (-1), 1, [], 0) :: (26, .iastore, 1, [], 0) :: (27, .dup, 1, [], 0) :: (28, .iconst 3, 1, [], 0) :: (29, .iconst (-1), 1, [], 0) :: (30, .iastore, 1, [], 0) :: (31, .putfield 15, 3, [12, 3, 6198, 0], 0) :: (34, .aload_n 0, 1, [], 0) :: (35, .bipush 36, 2, [], 0) :: (37, .newarray .int, 2, [], 0) :: (39, .putfield 18, 3, [12, 4, 6199, 0], 0) :: (42, .aload_n 0, 1, [], 0) :: (43, .sipush 324, 3, [], 0) :: (46, .newarray .int, 2, [], 0) :: (48, .putfield 21, 3, [12, 6, 6201, 0], 0) :: (51, .aload_n 0, 1, [], 0) :: (52, .bipush 81, 2, [], 0) :: (54, .newarray .long, 2, [], 0) :: (56, .putfield 24, 3, [12, 7, 6202, 0], 0) :: (59, .aload_n 0, 1, [], 0) :: (60, .bipush 7, 2, [], 0) :: (62, .newarray .int, 2, [], 0) :: (64, .putfield 28, 3, [12, 10, 6205, 0], 0) :: (67, .aload_n 0, 1, [], 0) :: (68, .sipush 700, 3, [], 0) :: (71, .newarray .byte, 2, [], 0) :: (73, .putfield 31, 3, [12, 11, 6206, 0], 0) :: (76, .aload_n 0, 1, [], 0) :: (77, .sipush 700, 3, [], 0) :: (80, .newarray .int, 2, [], 0) :: (82, .putfield 35, 3, [12, 12, 6207, 0], 0) :: (85, .aload_n 0, 1, [], 0) :: (86, .sipush 2800, 3, [], 0) :: (89, .newarray .byte, 2, [], 0) :: (91, .putfield 38, 3, [12, 13, 6208, 0], 0) :: (94, .aload_n 0, 1, [], 0) :: (95, .sipush 2800, 3, [], 0) :: (98, .newarray .int, 2, [], 0) :: (100, .putfield 41, 3, [12, 14, 6209, 0], 0) :: (103, .aload_n 0, 1, [], 0) :: (104, .sipush 700, 3, [], 0) :: (107, .newarray .byte, 2, [], 0) :: (109, .putfield 44, 3, [12, 15, 6210, 0], 0) :: (112, .aload_n 0, 1, [], 0) :: (113, .sipush 200, 3, [], 0) :: (116, .newarray .byte, 2, [], 0) :: (118, .putfield 47, 3, [12, 16, 6211, 0], 0) :: (121, .aload_n 0, 1, [], 0) :: (122, .bipush 6, 2, [], 0) :: (124, .newarray .int, 2, [], 0) :: (126, .putfield 50, 3, [12, 18, 6213, 0], 0) :: (129, .aload_n 0, 1, [], 0) :: (130, .bipush 40, 2, [], 0) :: (132, .newarray .int, 2, [], 0) :: (134, .putfield 53, 3, [12, 24, 6219, 0], 0) :: (137, .aload_n 0, 1, [], 0) :: (138, .bipush 40, 2, [], 0) :: (140, .newarray .int, 2, [], 0) :: (142, .putfield 56, 3, [12, 25, 6220, 0], 0) :: (145, .aload_n 0, 1, [], 0) :: (146, .bipush 40, 2, [], 0) :: (148, .newarray .int, 2, [], 0) :: (150, .putfield 59, 3, [12, 26, 6221, 0], 0) :: (153, .aload_n 0, 1, [], 0) :: (154, .bipush 40, 2, [], 0) :: (156, .newarray .int, 2, [], 0) :: (158, .putfield 62, 3, [12, 27, 6222, 0], 0) :: (161, .aload_n 0, 1, [], 0) :: (162, .bipush 20, 2, [], 0) :: (164, .newarray .int, 2, [], 0) :: (166, .putfield 65, 3, [12, 29, 6224, 0], 0) :: (169, .aload_n 0, 1, [], 0) :: (170, .bipush 20, 2, [], 0) :: (172, .newarray .int, 2, [], 0) :: (174, .putfield 68, 3, [12, 30, 6225, 0], 0) :: (177, .aload_n 0, 1, [], 0) :: (178, .bipush 6, 2, [], 0) :: (180, .newarray .int, 2, [], 0) :: (182, .putfield 71, 3, [12, 32, 6227, 0], 0) :: (185, .aload_n 0, 1, [], 0) :: (186, .bipush 6, 2, [], 0) :: (188, .newarray .int, 2, [], 0) :: (190, .putfield 74, 3, [12, 33, 6228, 0], 0) :: (193, .aload_n 0, 1, [], 0) :: (194, .iconst 4, 1, [], 0) :: (195, .newarray .int, 2, [], 0) :: (197, .dup, 1, [], 0) :: (198, .iconst 0, 1, [], 0) :: (199, .iconst (-1), 1, [], 0) :: (200, .iastore, 1, [], 0) :: (201, .dup, 1, [], 0) :: (202, .iconst 1, 1, [], 0) :: (203, .iconst (-1), 1, [], 0) :: (204, .iastore, 1, [], 0) :: (205, .dup, 1, [], 0) :: (206, .iconst 2, 1, [], 0) :: (207, .iconst (-1), 1, [], 0) :: (208, .iastore, 1, [], 0) :: (209, .dup, 1, [], 0) :: (210, .iconst 3, 1, [], 0) :: (211, .iconst (-1), 1, [], 0) :: (212, .iastore, 1, [], 0) :: (213, .putfield 77, 3, [12, 34, 6229, 0], 0) :: (216, .aload_n 0, 1, [], 0) :: (217, .bipush 100, 2, [], 0) :: (219, .newarray .byte, 2, [], 0) :: (221, .putfield 80, 3, [12, 35, 6230, 0], 0) :: (224, .aload_n 0, 1, [], 0) :: (225, .sipush 9900, 3, [], 0) :: (228, .newarray .byte, 2, [], 0) :: (230, .putfield 83, 3, [12, 43, 6238, 0], 0) :: (233, .aload_n 0, 1, [], 0) :: (234, .bipush 32, 2, [], 0) :: (236, .newarray .int, 2, [], 0) :: (238, .putfield 86, 3, [12, 46, 7001, 0], 0) :: (241, .aload_n 0, 1, [], 0) :: (242, .iconst 3, 1, [], 0) :: (243, .newarray .int, 2, [], 0) :: (245, .putfield 89, 3, [12, 48, 7003, 0], 0) :: (248, .aload_n 0, 1, [], 0) :: (249, .iconst 3, 1, [], 0) :: (250, .newarray .int, 2, [], 0) :: (252, .putfield 92, 3, [12, 49, 7004, 0], 0) :: (255, .aload_n 0, 1, [], 0) :: (256, .iconst 3, 1, [], 0) :: (257, .newarray .int, 2, [], 0) :: (259, .putfield 95, 3, [12, 50, 7005, 0], 0) :: (262, .aload_n 0, 1, [], 0) :: (263, .iconst 4, 1, [], 0) :: (264, .newarray .int, 2, [], 0) :: (266, .putfield 98, 3, [12, 52, 7007, 0], 0) :: (269, .aload_n 0, 1, [], 0) :: (270, .iconst 4, 1, [], 0) :: (271, .newarray .int, 2, [], 0) :: (273, .putfield 101, 3, [12, 54, 7009, 0], 0) :: (276, .aload_n 0, 1, [], 0) :: (277, .iconst 4, 1, [], 0) :: (278, .newarray .int, 2, [], 0) :: (280, .putfield 104, 3, [12, 55, 7010, 0], 0) :: (283, .aload_n 0, 1, [], 0) :: (284, .bipush 20, 2, [], 0) :: (286, .newarray .int, 2, [], 0) :: (288, .putfield 107, 3, [12, 56, 7011, 0], 0) :: (291, .aload_n 0, 1, [], 0) :: (292, .bipush 20, 2, [], 0) :: (294, .newarray .int, 2, [], 0) :: (296, .putfield 110, 3, [12, 57, 7012, 0], 0) :: (299, .aload_n 0, 1, [], 0) :: (300, .bipush 20, 2, [], 0) :: (302, .newarray .int, 2, [], 0) :: (304, .putfield 113, 3, [12, 58, 7013, 0], 0) :: (307, .aload_n 0, 1, [], 0) :: (308, .iconst 4, 1, [], 0) :: (309, .newarray .int, 2, [], 0) :: (311, .putfield 116, 3, [12, 59, 7014, 0], 0) :: (314, .aload_n 0, 1, [], 0) :: (315, .bipush 24, 2, [], 0) :: (317, .newarray .int, 2, [], 0) :: (319, .putfield 119, 3, [12, 61, 7016, 0], 0) :: (322, .aload_n 0, 1, [], 0) :: (323, .bipush 6, 2, [], 0) :: (325, .newarray .int, 2, [], 0) :: (327, .dup, 1, [], 0) :: (328, .iconst 0, 1, [], 0) :: (329, .iconst (-1), 1, [], 0) :: (330, .iastore, 1, [], 0) :: (331, .dup, 1, [], 0) :: (332, .iconst 1, 1, [], 0) :: (333, .iconst (-1), 1, [], 0) :: (334, .iastore, 1, [], 0) :: (335, .dup, 1, [], 0) :: (336, .iconst 2, 1, [], 0) :: (337, .iconst (-1), 1, [], 0) :: (338, .iastore, 1, [], 0) :: (339, .dup, 1, [], 0) :: (340, .iconst 3, 1, [], 0) :: (341, .iconst (-1), 1, [], 0) :: (342, .iastore, 1, [], 0) :: (343, .dup, 1, [], 0) :: (344, .iconst 4, 1, [], 0) :: (345, .iconst (-1), 1, [], 0) :: (346, .iastore, 1, [], 0) :: (347, .dup, 1, [], 0) :: (348, .iconst 5, 1, [], 0) :: (349, .iconst (-1), 1, [], 0) :: (350, .iastore, 1, [], 0) :: (351, .putfield 122, 3, [12, 62, 7017, 0], 0) :: (354, .aload_n 0, 1, [], 0) :: (355, .bipush 6, 2, [], 0) :: (357, .newarray .int, 2, [], 0) :: (359, .putfield 125, 3, [12, 63, 7018, 0], 0) :: (362, .aload_n 0, 1, [], 0) :: (363, .sipush 360, 3, [], 0) :: (366, .newarray .long, 2, [], 0) :: (368, .putfield 128, 3, [12, 64, 7019, 0], 0) :: (371, .aload_n 0, 1, [], 0) :: (372, .bipush 60, 2, [], 0) :: (374, .newarray .long, 2, [], 0) :: (376, .putfield 131, 3, [12, 65, 7020, 0], 0) :: (379, .return_, 1, [], 0) :: []
/-! 242 SueOrSettleModel.in(III)Z -/
def c242_15 : List JE := (15, .ireturn, 1, [1], 0) :: []
def c242_14 : List JE := (14, .iconst 0, 1, [], 0) :: c242_15
def c242_0 : List JE := (0, .iload_n 0, 1, [], 0) :: (1, .iload_n 1, 1, [], 0) :: (2, .if_icmp .lt 12, 3, [14], 0) :: (5, .iload_n 0, 1, [], 0) :: (6, .iload_n 2, 1, [], 0) :: (7, .if_icmp .gt 7, 3, [14], 0) :: (10, .iconst 1, 1, [], 0) :: (11, .goto 4, 3, [15], 0) :: c242_14
/-! 243 SueOrSettleModel.gcd(JJ)J -/
def c243_55 : List JE := (55, .lreturn, 1, [], 0) :: []
def c243_53 : List JE := (53, .lload 4, 2, [], 0) :: c243_55
def c243_42 : List JE := (42, .lload 4, 2, [], 0) :: (44, .lconst 0, 1, [], 0) :: (45, .lcmp, 1, [], 0) :: (46, .ifCond .ne 7, 3, [53], 0) :: (49, .lconst 1, 1, [], 0) :: (50, .goto 5, 3, [55], 0) :: c243_53
def c243_17 : List JE := (17, .lload 6, 2, [], 0) :: (19, .lconst 0, 1, [], 0) :: (20, .lcmp, 1, [], 0) :: (21, .ifCond .eq 21, 3, [42], 0) :: (24, .lload 4, 2, [], 0) :: (26, .lload 6, 2, [], 0) :: (28, .lrem, 1, [], 0) :: (29, .lstore 8, 2, [], 0) :: (31, .lload 6, 2, [], 0) :: (33, .lstore 4, 2, [], 0) :: (35, .lload 8, 2, [], 0) :: (37, .lstore 6, 2, [], 0) :: (39, .goto (-22), 3, [17], 0) :: c243_42
def c243_12 : List JE := (12, .lstore 4, 2, [], 0) :: (14, .lload_n 2, 1, [], 0) :: (15, .lstore 6, 2, [], 0) :: c243_17
def c243_11 : List JE := (11, .lload_n 0, 1, [], 0) :: c243_12
def c243_0 : List JE := (0, .lload_n 0, 1, [], 0) :: (1, .lconst 0, 1, [], 0) :: (2, .lcmp, 1, [], 0) :: (3, .ifCond .ge 8, 3, [11], 0) :: (6, .lload_n 0, 1, [], 0) :: (7, .lneg, 1, [], 0) :: (8, .goto 4, 3, [12], 0) :: c243_11
/-! 244 SueOrSettleModel.told(JJI)J -/
def c244_23 : List JE := (23, .lreturn, 1, [], 0) :: []
def c244_19 : List JE := (19, .lload_n 2, 1, [], 0) :: (20, .lload 5, 2, [], 0) :: (22, .ldiv, 1, [], 0) :: c244_23
def c244_0 : List JE := (0, .lload_n 0, 1, [], 0) :: (1, .lload_n 2, 1, [], 0) :: (2, .invokestatic 138, 3, [0, 2, 243, 7201, 7202, 1008], 0) :: (5, .lstore 5, 2, [], 0) :: (7, .iload 4, 2, [], 0) :: (9, .ifCond .ne 10, 3, [19], 0) :: (12, .lload_n 0, 1, [], 0) :: (13, .lload 5, 2, [], 0) :: (15, .ldiv, 1, [], 0) :: (16, .goto 7, 3, [23], 0) :: c244_19
/-! 245 SueOrSettleModel.isThing(I)Z -/
def c245_0 : List JE := (0, .iload_n 1, 1, [], 0) :: (1, .iconst 0, 1, [], 0) :: (2, .aload_n 0, 1, [], 0) :: (3, .getfield 142, 3, [12, 1, 6196, 0], 0) :: (6, .iconst 1, 1, [], 0) :: (7, .isub, 1, [], 0) :: (8, .invokestatic 145, 3, [0, 3, 242, 7158, 7159, 1008], 0) :: (11, .ireturn, 1, [1], 0) :: []
/-! 246 SueOrSettleModel.rowsOf(I)I -/
def c246_24 : List JE := (24, .ireturn, 1, [], 0) :: []
def c246_13 : List JE := (13, .aload_n 0, 1, [], 0) :: (14, .getfield 9, 3, [12, 2, 6197, 0], 0) :: (17, .aload_n 0, 1, [], 0) :: (18, .getfield 15, 3, [12, 3, 6198, 0], 0) :: (21, .iload_n 1, 1, [], 0) :: (22, .iaload, 1, [], 0) :: (23, .iaload, 1, [], 0) :: c246_24
def c246_0 : List JE := (0, .aload_n 0, 1, [], 0) :: (1, .getfield 15, 3, [12, 3, 6198, 0], 0) :: (4, .iload_n 1, 1, [], 0) :: (5, .iaload, 1, [], 0) :: (6, .ifCond .ge 7, 3, [13], 0) :: (9, .iconst 1, 1, [], 0) :: (10, .goto 14, 3, [24], 0) :: c246_13
/-! 247 SueOrSettleModel.thing(I)I -/
def c247_77 : List JE := (77, .aload_n 0, 1, [], 0) :: (78, .dup, 1, [], 0) :: (79, .getfield 142, 3, [12, 1, 6196, 0], 0) :: (82, .iconst 1, 1, [], 0) :: (83, .iadd, 1, [], 0) :: (84, .putfield 142, 3, [12, 1, 6196, 0], 0) :: (87, .aload_n 0, 1, [], 0) :: (88, .getfield 142, 3, [12, 1, 6196, 0], 0) :: (91, .iconst 1, 1, [], 0) :: (92, .isub, 1, [], 0) :: (93, .ireturn, 1, [], 0) :: []
def c247_50 : List JE := (50, .iload_n 2, 1, [], 0) :: (51, .bipush 9, 2, [], 0) :: (53, .aload_n 0, 1, [], 0) :: (54, .getfield 142, 3, [12, 1, 6196, 0], 0) :: (57, .imul, 1, [], 0) :: (58, .bipush 9, 2, [], 0) :: (60, .iadd, 1, [], 0) :: (61, .if_icmp .ge 16, 3, [77], 0) :: (64, .aload_n 0, 1, [], 0) :: (65, .getfield 18, 3, [12, 4, 6199, 0], 0) :: (68, .iload_n 2, 1, [], 0) :: (69, .iconst 1, 1, [], 0) :: (70, .iastore, 1, [], 0) :: (71, .iinc 2 1, 3, [], 0) :: (74, .goto (-24), 3, [50], 0) :: c247_77
def c247_32 : List JE := (32, .aload_n 0, 1, [], 0) :: (33, .getfield 9, 3, [12, 2, 6197, 0], 0) :: (36, .aload_n 0, 1, [], 0) :: (37, .getfield 142, 3, [12, 1, 6196, 0], 0) :: (40, .iload_n 1, 1, [], 0) :: (41, .iastore, 1, [], 0) :: (42, .bipush 9, 2, [], 0) :: (44, .aload_n 0, 1, [], 0) :: (45, .getfield 142, 3, [12, 1, 6196, 0], 0) :: (48, .imul, 1, [], 0) :: (49, .istore_n 2, 1, [], 0) :: c247_50
def c247_21 : List JE := (21, .aload_n 0, 1, [], 0) :: (22, .getfield 142, 3, [12, 1, 6196, 0], 0) :: (25, .iconst 4, 1, [], 0) :: (26, .if_icmp .ne 6, 3, [32], 0) :: (29, .bipush (-3), 2, [], 0) :: (31, .ireturn, 1, [], 0) :: c247_32
def c247_11 : List JE := (11, .aload_n 0, 1, [], 0) :: (12, .getfield 149, 3, [12, 9, 6204, 0], 0) :: (15, .ifCond .le 6, 3, [21], 0) :: (18, .bipush (-5), 2, [], 0) :: (20, .ireturn, 1, [], 0) :: c247_21
def c247_0 : List JE := (0, .iload_n 1, 1, [], 0) :: (1, .iconst 2, 1, [], 0) :: (2, .iconst 3, 1, [], 0) :: (3, .invokestatic 145, 3, [0, 3, 242, 7158, 7159, 1008], 0) :: (6, .ifCond .ne 5, 3, [11], 0) :: (9, .iconst (-1), 1, [], 0) :: (10, .ireturn, 1, [], 0) :: c247_11
/-! 248 SueOrSettleModel.hang(II)I -/
def c248_76 : List JE := (76, .aload_n 0, 1, [], 0) :: (77, .iconst 0, 1, [], 0) :: (78, .putfield 156, 3, [12, 22, 6217, 0], 0) :: (81, .aload_n 0, 1, [], 0) :: (82, .iconst 0, 1, [], 0) :: (83, .putfield 159, 3, [12, 23, 6218, 0], 0) :: (86, .iconst 1, 1, [], 0) :: (87, .ireturn, 1, [], 0) :: []
def c248_52 : List JE := (52, .iload_n 3, 1, [], 0) :: (53, .bipush 9, 2, [], 0) :: (55, .iload_n 1, 1, [], 0) :: (56, .imul, 1, [], 0) :: (57, .bipush 9, 2, [], 0) :: (59, .iadd, 1, [], 0) :: (60, .if_icmp .ge 16, 3, [76], 0) :: (63, .aload_n 0, 1, [], 0) :: (64, .getfield 18, 3, [12, 4, 6199, 0], 0) :: (67, .iload_n 3, 1, [], 0) :: (68, .iconst 1, 1, [], 0) :: (69, .iastore, 1, [], 0) :: (70, .iinc 3 1, 3, [], 0) :: (73, .goto (-21), 3, [52], 0) :: c248_76
def c248_40 : List JE := (40, .aload_n 0, 1, [], 0) :: (41, .getfield 15, 3, [12, 3, 6198, 0], 0) :: (44, .iload_n 1, 1, [], 0) :: (45, .iload_n 2, 1, [], 0) :: (46, .iastore, 1, [], 0) :: (47, .bipush 9, 2, [], 0) :: (49, .iload_n 1, 1, [], 0) :: (50, .imul, 1, [], 0) :: (51, .istore_n 3, 1, [], 0) :: c248_52
def c248_37 : List JE := (37, .bipush (-5), 2, [], 0) :: (39, .ireturn, 1, [], 0) :: c248_40
def c248_21 : List JE := (21, .aload_n 0, 1, [], 0) :: (22, .getfield 15, 3, [12, 3, 6198, 0], 0) :: (25, .iload_n 1, 1, [], 0) :: (26, .iaload, 1, [], 0) :: (27, .ifCond .ge 10, 3, [37], 0) :: (30, .aload_n 0, 1, [], 0) :: (31, .getfield 149, 3, [12, 9, 6204, 0], 0) :: (34, .ifCond .le 6, 3, [40], 0) :: c248_37
def c248_19 : List JE := (19, .iconst (-1), 1, [], 0) :: (20, .ireturn, 1, [], 0) :: c248_21
def c248_0 : List JE := (0, .aload_n 0, 1, [], 0) :: (1, .iload_n 1, 1, [], 0) :: (2, .invokevirtual 152, 3, [5, 1, 245, 12, 7165, 7167, 57, 1008], 0) :: (5, .ifCond .eq 14, 3, [19], 0) :: (8, .iload_n 2, 1, [], 0) :: (9, .iconst 0, 1, [], 0) :: (10, .iload_n 1, 1, [], 0) :: (11, .iconst 1, 1, [], 0) :: (12, .isub, 1, [], 0) :: (13, .invokestatic 145, 3, [0, 3, 242, 7158, 7159, 1008], 0) :: (16, .ifCond .ne 5, 3, [21], 0) :: c248_19
/-! 249 SueOrSettleModel.isWeight(III)Z -/
def c249_44 : List JE := (44, .ireturn, 1, [1], 0) :: []
def c249_43 : List JE := (43, .iconst 0, 1, [], 0) :: c249_44
def c249_0 : List JE := (0, .aload_n 0, 1, [], 0) :: (1, .iload_n 1, 1, [], 0) :: (2, .invokevirtual 152, 3, [5, 1, 245, 12, 7165, 7167, 57, 1008], 0) :: (5, .ifCond .eq 38, 3, [43], 0) :: (8, .iload_n 2, 1, [], 0) :: (9, .iconst 0, 1, [], 0) :: (10, .aload_n 0, 1, [], 0) :: (11, .iload_n 1, 1, [], 0) :: (12, .invokevirtual 162, 3, [5, 1, 246, 12, 7177, 7179, 59, 1008], 0) :: (15, .iconst 1, 1, [], 0) :: (16, .isub, 1, [], 0) :: (17, .invokestatic 145, 3, [0, 3, 242, 7158, 7159, 1008], 0) :: (20, .ifCond .eq 23, 3, [43], 0) :: (23, .iload_n 3, 1, [], 0) :: (24, .iconst 0, 1, [], 0) :: (25, .aload_n 0, 1, [], 0) :: (26, .getfield 9, 3, [12, 2, 6197, 0], 0) :: (29, .iload_n 1, 1, [], 0) :: (30, .iaload, 1, [], 0) :: (31, .iconst 1, 1, [], 0) :: (32, .isub, 1, [], 0) :: (33, .invokestatic 145, 3, [0, 3, 242, 7158, 7159, 1008], 0) :: (36, .ifCond .eq 7, 3, [43], 0) :: (39, .iconst 1, 1, [], 0) :: (40, .goto 4, 3, [44], 0) :: c249_43
/-! 250 SueOrSettleModel.weight(IIII)I -/
def c250_62 : List JE := (62, .aload_n 0, 1, [], 0) :: (63, .getfield 18, 3, [12, 4, 6199, 0], 0) :: (66, .iload 5, 2, [], 0) :: (68, .iload 4, 2, [], 0) :: (70, .iastore, 1, [], 0) :: (71, .iload 6, 2, [], 0) :: (73, .ireturn, 1, [], 0) :: []
def c250_23 : List JE := (23, .bipush 9, 2, [], 0) :: (25, .iload_n 1, 1, [], 0) :: (26, .imul, 1, [], 0) :: (27, .iconst 3, 1, [], 0) :: (28, .iload_n 2, 1, [], 0) :: (29, .imul, 1, [], 0) :: (30, .iadd, 1, [], 0) :: (31, .iload_n 3, 1, [], 0) :: (32, .iadd, 1, [], 0) :: (33, .istore 5, 2, [], 0) :: (35, .aload_n 0, 1, [], 0) :: (36, .getfield 18, 3, [12, 4, 6199, 0], 0) :: (39, .iload 5, 2, [], 0) :: (41, .iaload, 1, [], 0) :: (42, .istore 6, 2, [], 0) :: (44, .iload 6, 2, [], 0) :: (46, .iload 4, 2, [], 0) :: (48, .if_icmp .eq 14, 3, [62], 0) :: (51, .aload_n 0, 1, [], 0) :: (52, .iconst (-1), 1, [], 0) :: (53, .iload 5, 2, [], 0) :: (55, .iload 6, 2, [], 0) :: (57, .iload 4, 2, [], 0) :: (59, .invokevirtual 169, 3, [5, 4, 279, 12, 7181, 7183, 60, 1008], 0) :: c250_62
def c250_21 : List JE := (21, .iconst (-1), 1, [], 0) :: (22, .ireturn, 1, [], 0) :: c250_23
def c250_0 : List JE := (0, .aload_n 0, 1, [], 0) :: (1, .iload_n 1, 1, [], 0) :: (2, .iload_n 2, 1, [], 0) :: (3, .iload_n 3, 1, [], 0) :: (4, .invokevirtual 166, 3, [5, 3, 249, 12, 7173, 7175, 58, 1008], 0) :: (7, .ifCond .eq 14, 3, [21], 0) :: (10, .iload 4, 2, [], 0) :: (12, .iconst 1, 1, [], 0) :: (13, .bipush 99, 2, [], 0) :: (15, .invokestatic 145, 3, [0, 3, 242, 7158, 7159, 1008], 0) :: (18, .ifCond .ne 5, 3, [23], 0) :: c250_21
/-! 251 SueOrSettleModel.sumOf(II)I -/
def c251_41 : List JE := (41, .iload_n 3, 1, [], 0) :: (42, .ireturn, 1, [], 0) :: []
def c251_5 : List JE := (5, .iload 4, 2, [], 0) :: (7, .aload_n 0, 1, [], 0) :: (8, .getfield 9, 3, [12, 2, 6197, 0], 0) :: (11, .iload_n 1, 1, [], 0) :: (12, .iaload, 1, [], 0) :: (13, .if_icmp .ge 28, 3, [41], 0) :: (16, .iload_n 3, 1, [], 0) :: (17, .aload_n 0, 1, [], 0) :: (18, .getfield 18, 3, [12, 4, 6199, 0], 0) :: (21, .bipush 9, 2, [], 0) :: (23, .iload_n 1, 1, [], 0) :: (24, .imul, 1, [], 0) :: (25, .iconst 3, 1, [], 0) :: (26, .iload_n 2, 1, [], 0) :: (27, .imul, 1, [], 0) :: (28, .iadd, 1, [], 0) :: (29, .iload 4, 2, [], 0) :: (31, .iadd, 1, [], 0) :: (32, .iaload, 1, [], 0) :: (33, .iadd, 1, [], 0) :: (34, .istore_n 3, 1, [], 0) :: (35, .iinc 4 1, 3, [], 0) :: (38, .goto (-33), 3, [5], 0) :: c251_41
def c251_0 : List JE := (0, .iconst 0, 1, [], 0) :: (1, .istore_n 3, 1, [], 0) :: (2, .iconst 0, 1, [], 0) :: (3, .istore 4, 2, [], 0) :: c251_5
/-! 252 SueOrSettleModel.bottomOf(I)J -/
def c252_45 : List JE := (45, .lload_n 2, 1, [], 0) :: (46, .lreturn, 1, [], 0) :: []
def c252_5 : List JE := (5, .iload 4, 2, [], 0) :: (7, .aload_n 0, 1, [], 0) :: (8, .iload_n 1, 1, [], 0) :: (9, .invokevirtual 162, 3, [5, 1, 246, 12, 7177, 7179, 59, 1008], 0) :: (12, .if_icmp .ge 33, 3, [45], 0) :: (15, .lload_n 2, 1, [], 0) :: (16, .lload_n 2, 1, [], 0) :: (17, .aload_n 0, 1, [], 0) :: (18, .iload_n 1, 1, [], 0) :: (19, .iload 4, 2, [], 0) :: (21, .invokevirtual 173, 3, [5, 2, 251, 12, 7197, 7199, 63, 1008], 0) :: (24, .i2l, 1, [], 0) :: (25, .invokestatic 138, 3, [0, 2, 243, 7201, 7202, 1008], 0) :: (28, .ldiv, 1, [], 0) :: (29, .aload_n 0, 1, [], 0) :: (30, .iload_n 1, 1, [], 0) :: (31, .iload 4, 2, [], 0) :: (33, .invokevirtual 173, 3, [5, 2, 251, 12, 7197, 7199, 63, 1008], 0) :: (36, .i2l, 1, [], 0) :: (37, .lmul, 1, [], 0) :: (38, .lstore_n 2, 1, [], 0) :: (39, .iinc 4 1, 3, [], 0) :: (42, .goto (-37), 3, [5], 0) :: c252_45
def c252_0 : List JE := (0, .lconst 1, 1, [], 0) :: (1, .lstore_n 2, 1, [], 0) :: (2, .iconst 0, 1, [], 0) :: (3, .istore 4, 2, [], 0) :: c252_5
/-! 253 SueOrSettleModel.bottomNow()J -/
def c253_45 : List JE := (45, .lload_n 1, 1, [], 0) :: (46, .lreturn, 1, [], 0) :: []
def c253_34 : List JE := (34, .lload_n 1, 1, [], 0) :: (35, .lload 4, 2, [], 0) :: (37, .lmul, 1, [], 0) :: (38, .lstore_n 1, 1, [], 0) :: (39, .iinc 3 1, 3, [], 0) :: (42, .goto (-38), 3, [4], 0) :: c253_45
def c253_4 : List JE := (4, .iload_n 3, 1, [], 0) :: (5, .aload_n 0, 1, [], 0) :: (6, .getfield 142, 3, [12, 1, 6196, 0], 0) :: (9, .if_icmp .ge 36, 3, [45], 0) :: (12, .aload_n 0, 1, [], 0) :: (13, .iload_n 3, 1, [], 0) :: (14, .invokevirtual 177, 3, [5, 1, 252, 12, 7193, 7195, 62, 1008], 0) :: (17, .lstore 4, 2, [], 0) :: (19, .lload_n 1, 1, [], 0) :: (20, .ldc2_w 181, 3, [7204], 1000000000000) :: (23, .lload 4, 2, [], 0) :: (25, .ldiv, 1, [], 0) :: (26, .lcmp, 1, [], 0) :: (27, .ifCond .le 7, 3, [34], 0) :: (30, .ldc2_w 183, 3, [7205], (-4)) :: (33, .lreturn, 1, [], 0) :: c253_34
def c253_0 : List JE := (0, .lconst 1, 1, [], 0) :: (1, .lstore_n 1, 1, [], 0) :: (2, .iconst 0, 1, [], 0) :: (3, .istore_n 3, 1, [], 0) :: c253_4
/-! 254 SueOrSettleModel.bottom()J -/
def c254_0 : List JE := (0, .aload_n 0, 1, [], 0) :: (1, .invokevirtual 185, 3, [5, 0, 253, 12, 7189, 7191, 61, 1008], 0) :: (4, .lreturn, 1, [], 0) :: []
/-! 255 SueOrSettleModel.numberOf(I)J -/
def c255_100 : List JE := (100, .lload_n 2, 1, [], 0) :: (101, .lreturn, 1, [], 0) :: []
def c255_44 : List JE := (44, .istore 5, 2, [], 0) :: (46, .lload_n 2, 1, [], 0) :: (47, .aload_n 0, 1, [], 0) :: (48, .getfield 18, 3, [12, 4, 6199, 0], 0) :: (51, .bipush 9, 2, [], 0) :: (53, .iload 4, 2, [], 0) :: (55, .imul, 1, [], 0) :: (56, .iconst 3, 1, [], 0) :: (57, .iload 5, 2, [], 0) :: (59, .imul, 1, [], 0) :: (60, .iadd, 1, [], 0) :: (61, .aload_n 0, 1, [], 0) :: (62, .getfield 21, 3, [12, 6, 6201, 0], 0) :: (65, .iconst 4, 1, [], 0) :: (66, .iload_n 1, 1, [], 0) :: (67, .imul, 1, [], 0) :: (68, .iload 4, 2, [], 0) :: (70, .iadd, 1, [], 0) :: (71, .iaload, 1, [], 0) :: (72, .iadd, 1, [], 0) :: (73, .iaload, 1, [], 0) :: (74, .i2l, 1, [], 0) :: (75, .aload_n 0, 1, [], 0) :: (76, .iload 4, 2, [], 0) :: (78, .invokevirtual 177, 3, [5, 1, 252, 12, 7193, 7195, 62, 1008], 0) :: (81, .aload_n 0, 1, [], 0) :: (82, .iload 4, 2, [], 0) :: (84, .iload 5, 2, [], 0) :: (86, .invokevirtual 173, 3, [5, 2, 251, 12, 7197, 7199, 63, 1008], 0) :: (89, .i2l, 1, [], 0) :: (90, .ldiv, 1, [], 0) :: (91, .lmul, 1, [], 0) :: (92, .lmul, 1, [], 0) :: (93, .lstore_n 2, 1, [], 0) :: (94, .iinc 4 1, 3, [], 0) :: (97, .goto (-92), 3, [5], 0) :: c255_100
def c255_28 : List JE := (28, .aload_n 0, 1, [], 0) :: (29, .getfield 21, 3, [12, 6, 6201, 0], 0) :: (32, .iconst 4, 1, [], 0) :: (33, .iload_n 1, 1, [], 0) :: (34, .imul, 1, [], 0) :: (35, .aload_n 0, 1, [], 0) :: (36, .getfield 15, 3, [12, 3, 6198, 0], 0) :: (39, .iload 4, 2, [], 0) :: (41, .iaload, 1, [], 0) :: (42, .iadd, 1, [], 0) :: (43, .iaload, 1, [], 0) :: c255_44
def c255_5 : List JE := (5, .iload 4, 2, [], 0) :: (7, .aload_n 0, 1, [], 0) :: (8, .getfield 142, 3, [12, 1, 6196, 0], 0) :: (11, .if_icmp .ge 89, 3, [100], 0) :: (14, .aload_n 0, 1, [], 0) :: (15, .getfield 15, 3, [12, 3, 6198, 0], 0) :: (18, .iload 4, 2, [], 0) :: (20, .iaload, 1, [], 0) :: (21, .ifCond .ge 7, 3, [28], 0) :: (24, .iconst 0, 1, [], 0) :: (25, .goto 19, 3, [44], 0) :: c255_28
def c255_0 : List JE := (0, .lconst 1, 1, [], 0) :: (1, .lstore_n 2, 1, [], 0) :: (2, .iconst 0, 1, [], 0) :: (3, .istore 4, 2, [], 0) :: c255_5
/-! 256 SueOrSettleModel.findStates()Z -/
def c256_127 : List JE := (127, .iconst 1, 1, [], 0) :: (128, .ireturn, 1, [1], 0) :: []
def c256_110 : List JE := (110, .aload_n 0, 1, [], 0) :: (111, .getfield 24, 3, [12, 7, 6202, 0], 0) :: (114, .iload_n 1, 1, [], 0) :: (115, .aload_n 0, 1, [], 0) :: (116, .iload_n 1, 1, [], 0) :: (117, .invokevirtual 196, 3, [5, 1, 255, 12, 7215, 7217, 65, 1008], 0) :: (120, .lastore, 1, [], 0) :: (121, .iinc 1 1, 3, [], 0) :: (124, .goto (-67), 3, [57], 0) :: c256_127
def c256_69 : List JE := (69, .iload_n 3, 1, [], 0) :: (70, .aload_n 0, 1, [], 0) :: (71, .getfield 142, 3, [12, 1, 6196, 0], 0) :: (74, .if_icmp .ge 36, 3, [110], 0) :: (77, .aload_n 0, 1, [], 0) :: (78, .getfield 21, 3, [12, 6, 6201, 0], 0) :: (81, .iconst 4, 1, [], 0) :: (82, .iload_n 1, 1, [], 0) :: (83, .imul, 1, [], 0) :: (84, .iload_n 3, 1, [], 0) :: (85, .iadd, 1, [], 0) :: (86, .iload_n 2, 1, [], 0) :: (87, .aload_n 0, 1, [], 0) :: (88, .getfield 9, 3, [12, 2, 6197, 0], 0) :: (91, .iload_n 3, 1, [], 0) :: (92, .iaload, 1, [], 0) :: (93, .irem, 1, [], 0) :: (94, .iastore, 1, [], 0) :: (95, .iload_n 2, 1, [], 0) :: (96, .aload_n 0, 1, [], 0) :: (97, .getfield 9, 3, [12, 2, 6197, 0], 0) :: (100, .iload_n 3, 1, [], 0) :: (101, .iaload, 1, [], 0) :: (102, .idiv, 1, [], 0) :: (103, .istore_n 2, 1, [], 0) :: (104, .iinc 3 1, 3, [], 0) :: (107, .goto (-38), 3, [69], 0) :: c256_110
def c256_57 : List JE := (57, .iload_n 1, 1, [], 0) :: (58, .aload_n 0, 1, [], 0) :: (59, .getfield 193, 3, [12, 5, 6200, 0], 0) :: (62, .if_icmp .ge 65, 3, [127], 0) :: (65, .iload_n 1, 1, [], 0) :: (66, .istore_n 2, 1, [], 0) :: (67, .iconst 0, 1, [], 0) :: (68, .istore_n 3, 1, [], 0) :: c256_69
def c256_55 : List JE := (55, .iconst 0, 1, [], 0) :: (56, .istore_n 1, 1, [], 0) :: c256_57
def c256_26 : List JE := (26, .iload_n 1, 1, [], 0) :: (27, .aload_n 0, 1, [], 0) :: (28, .getfield 142, 3, [12, 1, 6196, 0], 0) :: (31, .if_icmp .ge 24, 3, [55], 0) :: (34, .aload_n 0, 1, [], 0) :: (35, .dup, 1, [], 0) :: (36, .getfield 193, 3, [12, 5, 6200, 0], 0) :: (39, .aload_n 0, 1, [], 0) :: (40, .getfield 9, 3, [12, 2, 6197, 0], 0) :: (43, .iload_n 1, 1, [], 0) :: (44, .iaload, 1, [], 0) :: (45, .imul, 1, [], 0) :: (46, .putfield 193, 3, [12, 5, 6200, 0], 0) :: (49, .iinc 1 1, 3, [], 0) :: (52, .goto (-26), 3, [26], 0) :: c256_55
def c256_19 : List JE := (19, .aload_n 0, 1, [], 0) :: (20, .iconst 1, 1, [], 0) :: (21, .putfield 193, 3, [12, 5, 6200, 0], 0) :: (24, .iconst 0, 1, [], 0) :: (25, .istore_n 1, 1, [], 0) :: c256_26
def c256_0 : List JE := (0, .aload_n 0, 1, [], 0) :: (1, .aload_n 0, 1, [], 0) :: (2, .invokevirtual 185, 3, [5, 0, 253, 12, 7189, 7191, 61, 1008], 0) :: (5, .putfield 189, 3, [12, 8, 6203, 0], 0) :: (8, .aload_n 0, 1, [], 0) :: (9, .getfield 189, 3, [12, 8, 6203, 0], 0) :: (12, .lconst 0, 1, [], 0) :: (13, .lcmp, 1, [], 0) :: (14, .ifCond .ge 5, 3, [19], 0) :: (17, .iconst 0, 1, [], 0) :: (18, .ireturn, 1, [1], 0) :: c256_19
/-! 257 SueOrSettleModel.number(I)J -/
def c257_103 : List JE := (103, .lreturn, 1, [], 0) :: []
def c257_100 : List JE := (100, .ldc2_w 183, 3, [7205], (-4)) :: c257_103
def c257_84 : List JE := (84, .aload_n 0, 1, [], 0) :: (85, .invokevirtual 201, 3, [5, 0, 256, 12, 7211, 7213, 64, 1008], 0) :: (88, .ifCond .eq 12, 3, [100], 0) :: (91, .aload_n 0, 1, [], 0) :: (92, .getfield 24, 3, [12, 7, 6202, 0], 0) :: (95, .iload_n 2, 1, [], 0) :: (96, .laload, 1, [], 0) :: (97, .goto 6, 3, [103], 0) :: c257_100
def c257_61 : List JE := (61, .iload_n 2, 1, [], 0) :: (62, .iload_n 3, 1, [], 0) :: (63, .iload 5, 2, [], 0) :: (65, .imul, 1, [], 0) :: (66, .iadd, 1, [], 0) :: (67, .istore_n 2, 1, [], 0) :: (68, .iload_n 3, 1, [], 0) :: (69, .aload_n 0, 1, [], 0) :: (70, .getfield 9, 3, [12, 2, 6197, 0], 0) :: (73, .iload 4, 2, [], 0) :: (75, .iaload, 1, [], 0) :: (76, .imul, 1, [], 0) :: (77, .istore_n 3, 1, [], 0) :: (78, .iinc 4 1, 3, [], 0) :: (81, .goto (-55), 3, [26], 0) :: c257_84
def c257_26 : List JE := (26, .iload 4, 2, [], 0) :: (28, .aload_n 0, 1, [], 0) :: (29, .getfield 142, 3, [12, 1, 6196, 0], 0) :: (32, .if_icmp .ge 52, 3, [84], 0) :: (35, .iload_n 1, 1, [], 0) :: (36, .iconst 2, 1, [], 0) :: (37, .iload 4, 2, [], 0) :: (39, .imul, 1, [], 0) :: (40, .ishr, 1, [], 0) :: (41, .iconst 3, 1, [], 0) :: (42, .iand, 1, [], 0) :: (43, .istore 5, 2, [], 0) :: (45, .iload 5, 2, [], 0) :: (47, .aload_n 0, 1, [], 0) :: (48, .getfield 9, 3, [12, 2, 6197, 0], 0) :: (51, .iload 4, 2, [], 0) :: (53, .iaload, 1, [], 0) :: (54, .if_icmp .lt 7, 3, [61], 0) :: (57, .ldc2_w 199, 3, [7210], (-1)) :: (60, .lreturn, 1, [], 0) :: c257_61
def c257_19 : List JE := (19, .iconst 0, 1, [], 0) :: (20, .istore_n 2, 1, [], 0) :: (21, .iconst 1, 1, [], 0) :: (22, .istore_n 3, 1, [], 0) :: (23, .iconst 0, 1, [], 0) :: (24, .istore 4, 2, [], 0) :: c257_26
def c257_15 : List JE := (15, .ldc2_w 199, 3, [7210], (-1)) :: (18, .lreturn, 1, [], 0) :: c257_19
def c257_0 : List JE := (0, .iload_n 1, 1, [], 0) :: (1, .ifCond .lt 14, 3, [15], 0) :: (4, .iload_n 1, 1, [], 0) :: (5, .iconst 2, 1, [], 0) :: (6, .aload_n 0, 1, [], 0) :: (7, .getfield 142, 3, [12, 1, 6196, 0], 0) :: (10, .imul, 1, [], 0) :: (11, .ishr, 1, [], 0) :: (12, .ifCond .eq 7, 3, [19], 0) :: c257_15
/-! 258 SueOrSettleModel.areWays(I)Z -/
def c258_51 : List JE := (51, .iconst 1, 1, [], 0) :: (52, .ireturn, 1, [1], 0) :: []
def c258_45 : List JE := (45, .iinc 2 1, 3, [], 0) :: (48, .goto (-29), 3, [19], 0) :: c258_51
def c258_19 : List JE := (19, .iload_n 2, 1, [], 0) :: (20, .aload_n 0, 1, [], 0) :: (21, .getfield 142, 3, [12, 1, 6196, 0], 0) :: (24, .if_icmp .ge 27, 3, [51], 0) :: (27, .iload_n 1, 1, [], 0) :: (28, .iconst 2, 1, [], 0) :: (29, .iload_n 2, 1, [], 0) :: (30, .imul, 1, [], 0) :: (31, .ishr, 1, [], 0) :: (32, .iconst 3, 1, [], 0) :: (33, .iand, 1, [], 0) :: (34, .aload_n 0, 1, [], 0) :: (35, .getfield 9, 3, [12, 2, 6197, 0], 0) :: (38, .iload_n 2, 1, [], 0) :: (39, .iaload, 1, [], 0) :: (40, .if_icmp .le 5, 3, [45], 0) :: (43, .iconst 0, 1, [], 0) :: (44, .ireturn, 1, [1], 0) :: c258_45
def c258_17 : List JE := (17, .iconst 0, 1, [], 0) :: (18, .istore_n 2, 1, [], 0) :: c258_19
def c258_15 : List JE := (15, .iconst 0, 1, [], 0) :: (16, .ireturn, 1, [1], 0) :: c258_17
def c258_0 : List JE := (0, .iload_n 1, 1, [], 0) :: (1, .ifCond .lt 14, 3, [15], 0) :: (4, .iload_n 1, 1, [], 0) :: (5, .iconst 2, 1, [], 0) :: (6, .aload_n 0, 1, [], 0) :: (7, .getfield 142, 3, [12, 1, 6196, 0], 0) :: (10, .imul, 1, [], 0) :: (11, .ishr, 1, [], 0) :: (12, .ifCond .eq 5, 3, [17], 0) :: c258_15
/-! 259 SueOrSettleModel.agrees(II)Z -/
def c259_49 : List JE := (49, .iconst 1, 1, [], 0) :: (50, .ireturn, 1, [1], 0) :: []
def c259_43 : List JE := (43, .iinc 3 1, 3, [], 0) :: (46, .goto (-44), 3, [2], 0) :: c259_49
def c259_2 : List JE := (2, .iload_n 3, 1, [], 0) :: (3, .aload_n 0, 1, [], 0) :: (4, .getfield 142, 3, [12, 1, 6196, 0], 0) :: (7, .if_icmp .ge 42, 3, [49], 0) :: (10, .iload_n 2, 1, [], 0) :: (11, .iconst 2, 1, [], 0) :: (12, .iload_n 3, 1, [], 0) :: (13, .imul, 1, [], 0) :: (14, .ishr, 1, [], 0) :: (15, .iconst 3, 1, [], 0) :: (16, .iand, 1, [], 0) :: (17, .istore 4, 2, [], 0) :: (19, .iload 4, 2, [], 0) :: (21, .ifCond .le 22, 3, [43], 0) :: (24, .aload_n 0, 1, [], 0) :: (25, .getfield 21, 3, [12, 6, 6201, 0], 0) :: (28, .iconst 4, 1, [], 0) :: (29, .iload_n 1, 1, [], 0) :: (30, .imul, 1, [], 0) :: (31, .iload_n 3, 1, [], 0) :: (32, .iadd, 1, [], 0) :: (33, .iaload, 1, [], 0) :: (34, .iload 4, 2, [], 0) :: (36, .iconst 1, 1, [], 0) :: (37, .isub, 1, [], 0) :: (38, .if_icmp .eq 5, 3, [43], 0) :: (41, .iconst 0, 1, [], 0) :: (42, .ireturn, 1, [1], 0) :: c259_43
def c259_0 : List JE := (0, .iconst 0, 1, [], 0) :: (1, .istore_n 3, 1, [], 0) :: c259_2
/-! 260 SueOrSettleModel.chance(III)J -/
def c260_111 : List JE := (111, .lload 4, 2, [], 0) :: (113, .lload 6, 2, [], 0) :: (115, .iload_n 3, 1, [], 0) :: (116, .invokestatic 212, 3, [0, 3, 244, 7231, 7232, 1008], 0) :: (119, .lreturn, 1, [], 0) :: []
def c260_105 : List JE := (105, .iinc 8 1, 3, [], 0) :: (108, .goto (-59), 3, [49], 0) :: c260_111
def c260_71 : List JE := (71, .lload 6, 2, [], 0) :: (73, .aload_n 0, 1, [], 0) :: (74, .getfield 24, 3, [12, 7, 6202, 0], 0) :: (77, .iload 8, 2, [], 0) :: (79, .laload, 1, [], 0) :: (80, .ladd, 1, [], 0) :: (81, .lstore 6, 2, [], 0) :: (83, .aload_n 0, 1, [], 0) :: (84, .iload 8, 2, [], 0) :: (86, .iload_n 1, 1, [], 0) :: (87, .invokevirtual 208, 3, [5, 2, 259, 12, 7227, 7229, 67, 1008], 0) :: (90, .ifCond .eq 15, 3, [105], 0) :: (93, .lload 4, 2, [], 0) :: (95, .aload_n 0, 1, [], 0) :: (96, .getfield 24, 3, [12, 7, 6202, 0], 0) :: (99, .iload 8, 2, [], 0) :: (101, .laload, 1, [], 0) :: (102, .ladd, 1, [], 0) :: (103, .lstore 4, 2, [], 0) :: c260_105
def c260_49 : List JE := (49, .iload 8, 2, [], 0) :: (51, .aload_n 0, 1, [], 0) :: (52, .getfield 193, 3, [12, 5, 6200, 0], 0) :: (55, .if_icmp .ge 56, 3, [111], 0) :: (58, .aload_n 0, 1, [], 0) :: (59, .iload 8, 2, [], 0) :: (61, .iload_n 2, 1, [], 0) :: (62, .invokevirtual 208, 3, [5, 2, 259, 12, 7227, 7229, 67, 1008], 0) :: (65, .ifCond .ne 6, 3, [71], 0) :: (68, .goto 37, 3, [105], 0) :: c260_71
def c260_40 : List JE := (40, .lconst 0, 1, [], 0) :: (41, .lstore 4, 2, [], 0) :: (43, .lconst 0, 1, [], 0) :: (44, .lstore 6, 2, [], 0) :: (46, .iconst 0, 1, [], 0) :: (47, .istore 8, 2, [], 0) :: c260_49
def c260_29 : List JE := (29, .aload_n 0, 1, [], 0) :: (30, .invokevirtual 201, 3, [5, 0, 256, 12, 7211, 7213, 64, 1008], 0) :: (33, .ifCond .ne 7, 3, [40], 0) :: (36, .ldc2_w 183, 3, [7205], (-4)) :: (39, .lreturn, 1, [], 0) :: c260_40
def c260_25 : List JE := (25, .ldc2_w 199, 3, [7210], (-1)) :: (28, .lreturn, 1, [], 0) :: c260_29
def c260_0 : List JE := (0, .aload_n 0, 1, [], 0) :: (1, .iload_n 1, 1, [], 0) :: (2, .invokevirtual 205, 3, [5, 1, 258, 12, 7223, 7225, 66, 1008], 0) :: (5, .ifCond .eq 20, 3, [25], 0) :: (8, .aload_n 0, 1, [], 0) :: (9, .iload_n 2, 1, [], 0) :: (10, .invokevirtual 205, 3, [5, 1, 258, 12, 7223, 7225, 66, 1008], 0) :: (13, .ifCond .eq 12, 3, [25], 0) :: (16, .iload_n 3, 1, [], 0) :: (17, .iconst 0, 1, [], 0) :: (18, .iconst 1, 1, [], 0) :: (19, .invokestatic 145, 3, [0, 3, 242, 7158, 7159, 1008], 0) :: (22, .ifCond .ne 7, 3, [29], 0) :: c260_25
/-! 261 SueOrSettleModel.isQuarrel(I)Z -/
def c261_0 : List JE := (0, .iload_n 1, 1, [], 0) :: (1, .iconst 0, 1, [], 0) :: (2, .aload_n 0, 1, [], 0) :: (3, .getfield 149, 3, [12, 9, 6204, 0], 0) :: (6, .iconst 1, 1, [], 0) :: (7, .isub, 1, [], 0) :: (8, .invokestatic 145, 3, [0, 3, 242, 7158, 7159, 1008], 0) :: (11, .ireturn, 1, [1], 0) :: []
/-! 262 SueOrSettleModel.isNode(II)Z -/
def c262_29 : List JE := (29, .ireturn, 1, [1], 0) :: []
def c262_28 : List JE := (28, .iconst 0, 1, [], 0) :: c262_29
def c262_0 : List JE := (0, .aload_n 0, 1, [], 0) :: (1, .iload_n 1, 1, [], 0) :: (2, .invokevirtual 216, 3, [5, 1, 261, 12, 8046, 8048, 78, 1008], 0) :: (5, .ifCond .eq 23, 3, [28], 0) :: (8, .iload_n 2, 1, [], 0) :: (9, .iconst 0, 1, [], 0) :: (10, .aload_n 0, 1, [], 0) :: (11, .getfield 28, 3, [12, 10, 6205, 0], 0) :: (14, .iload_n 1, 1, [], 0) :: (15, .iaload, 1, [], 0) :: (16, .iconst 1, 1, [], 0) :: (17, .isub, 1, [], 0) :: (18, .invokestatic 145, 3, [0, 3, 242, 7158, 7159, 1008], 0) :: (21, .ifCond .eq 7, 3, [28], 0) :: (24, .iconst 1, 1, [], 0) :: (25, .goto 4, 3, [29], 0) :: c262_28
/-! 263 SueOrSettleModel.feed(II)I -/
def c263_65 : List JE := (65, .aload_n 0, 1, [], 0) :: (66, .getfield 219, 3, [12, 17, 6212, 0], 0) :: (69, .ireturn, 1, [], 0) :: []
def c263_28 : List JE := (28, .iload_n 3, 1, [], 0) :: (29, .iload_n 1, 1, [], 0) :: (30, .if_icmp .ge 35, 3, [65], 0) :: (33, .aload_n 0, 1, [], 0) :: (34, .getfield 47, 3, [12, 16, 6211, 0], 0) :: (37, .aload_n 0, 1, [], 0) :: (38, .getfield 219, 3, [12, 17, 6212, 0], 0) :: (41, .iload_n 2, 1, [], 0) :: (42, .bipush 8, 2, [], 0) :: (44, .iload_n 3, 1, [], 0) :: (45, .imul, 1, [], 0) :: (46, .ishr, 1, [], 0) :: (47, .i2b, 1, [], 0) :: (48, .bastore, 1, [22], 0) :: (49, .aload_n 0, 1, [], 0) :: (50, .dup, 1, [], 0) :: (51, .getfield 219, 3, [12, 17, 6212, 0], 0) :: (54, .iconst 1, 1, [], 0) :: (55, .iadd, 1, [], 0) :: (56, .putfield 219, 3, [12, 17, 6212, 0], 0) :: (59, .iinc 3 1, 3, [], 0) :: (62, .goto (-34), 3, [28], 0) :: c263_65
def c263_26 : List JE := (26, .iconst 0, 1, [], 0) :: (27, .istore_n 3, 1, [], 0) :: c263_28
def c263_11 : List JE := (11, .aload_n 0, 1, [], 0) :: (12, .getfield 219, 3, [12, 17, 6212, 0], 0) :: (15, .iload_n 1, 1, [], 0) :: (16, .iadd, 1, [], 0) :: (17, .sipush 200, 3, [], 0) :: (20, .if_icmp .le 6, 3, [26], 0) :: (23, .bipush (-3), 2, [], 0) :: (25, .ireturn, 1, [], 0) :: c263_26
def c263_0 : List JE := (0, .iload_n 1, 1, [], 0) :: (1, .iconst 1, 1, [], 0) :: (2, .iconst 4, 1, [], 0) :: (3, .invokestatic 145, 3, [0, 3, 242, 7158, 7159, 1008], 0) :: (6, .ifCond .ne 5, 3, [11], 0) :: (9, .iconst (-1), 1, [], 0) :: (10, .ireturn, 1, [], 0) :: c263_11
/-! 264 SueOrSettleModel.byteAt(I)I -/
def c264_18 : List JE := (18, .ireturn, 1, [], 0) :: []
def c264_17 : List JE := (17, .iconst (-1), 1, [], 0) :: c264_18
def c264_0 : List JE := (0, .iload_n 1, 1, [], 0) :: (1, .aload_n 0, 1, [], 0) :: (2, .getfield 219, 3, [12, 17, 6212, 0], 0) :: (5, .if_icmp .ge 12, 3, [17], 0) :: (8, .aload_n 0, 1, [], 0) :: (9, .getfield 47, 3, [12, 16, 6211, 0], 0) :: (12, .iload_n 1, 1, [], 0) :: (13, .baload, 1, [22], 0) :: (14, .goto 4, 3, [18], 0) :: c264_17
/-! 265 SueOrSettleModel.isDigitAt(I)Z -/
def c265_0 : List JE := (0, .aload_n 0, 1, [], 0) :: (1, .iload_n 1, 1, [], 0) :: (2, .invokevirtual 222, 3, [5, 1, 264, 12, 8006, 8008, 69, 1008], 0) :: (5, .bipush 48, 2, [], 0) :: (7, .bipush 57, 2, [], 0) :: (9, .invokestatic 145, 3, [0, 3, 242, 7158, 7159, 1008], 0) :: (12, .ireturn, 1, [1], 0) :: []
/-! 266 SueOrSettleModel.wrong(I)I -/
def c266_0 : List JE := (0, .aload_n 0, 1, [], 0) :: (1, .iload_n 1, 1, [], 0) :: (2, .putfield 225, 3, [12, 20, 6215, 0], 0) :: (5, .iconst (-1), 1, [], 0) :: (6, .ireturn, 1, [], 0) :: []
/-! 267 SueOrSettleModel.newNode(ZII)I -/
def c267_109 : List JE := (109, .iload 4, 2, [], 0) :: (111, .ireturn, 1, [], 0) :: []
def c267_71 : List JE := (71, .iload 5, 2, [], 0) :: (73, .iconst 4, 1, [], 0) :: (74, .if_icmp .ge 35, 3, [109], 0) :: (77, .aload_n 0, 1, [], 0) :: (78, .getfield 38, 3, [12, 13, 6208, 0], 0) :: (81, .iconst 4, 1, [], 0) :: (82, .iload 4, 2, [], 0) :: (84, .imul, 1, [], 0) :: (85, .iload 5, 2, [], 0) :: (87, .iadd, 1, [], 0) :: (88, .iconst (-1), 1, [], 0) :: (89, .bastore, 1, [22], 0) :: (90, .aload_n 0, 1, [], 0) :: (91, .getfield 41, 3, [12, 14, 6209, 0], 0) :: (94, .iconst 4, 1, [], 0) :: (95, .iload 4, 2, [], 0) :: (97, .imul, 1, [], 0) :: (98, .iload 5, 2, [], 0) :: (100, .iadd, 1, [], 0) :: (101, .iconst 0, 1, [], 0) :: (102, .iastore, 1, [], 0) :: (103, .iinc 5 1, 3, [], 0) :: (106, .goto (-35), 3, [71], 0) :: c267_109
def c267_27 : List JE := (27, .bipush 100, 2, [], 0) :: (29, .aload_n 0, 1, [], 0) :: (30, .getfield 149, 3, [12, 9, 6204, 0], 0) :: (33, .imul, 1, [], 0) :: (34, .aload_n 0, 1, [], 0) :: (35, .getfield 228, 3, [12, 21, 6216, 0], 0) :: (38, .iadd, 1, [], 0) :: (39, .iconst 1, 1, [], 0) :: (40, .isub, 1, [], 0) :: (41, .istore 4, 2, [], 0) :: (43, .aload_n 0, 1, [], 0) :: (44, .getfield 31, 3, [12, 11, 6206, 0], 0) :: (47, .iload 4, 2, [], 0) :: (49, .iload_n 2, 1, [], 0) :: (50, .i2b, 1, [], 0) :: (51, .bastore, 1, [22], 0) :: (52, .aload_n 0, 1, [], 0) :: (53, .getfield 35, 3, [12, 12, 6207, 0], 0) :: (56, .iload 4, 2, [], 0) :: (58, .iload_n 3, 1, [], 0) :: (59, .iastore, 1, [], 0) :: (60, .aload_n 0, 1, [], 0) :: (61, .getfield 44, 3, [12, 15, 6210, 0], 0) :: (64, .iload 4, 2, [], 0) :: (66, .iconst 0, 1, [], 0) :: (67, .bastore, 1, [22], 0) :: (68, .iconst 0, 1, [], 0) :: (69, .istore 5, 2, [], 0) :: c267_71
def c267_6 : List JE := (6, .aload_n 0, 1, [], 0) :: (7, .dup, 1, [], 0) :: (8, .getfield 228, 3, [12, 21, 6216, 0], 0) :: (11, .iconst 1, 1, [], 0) :: (12, .iadd, 1, [], 0) :: (13, .putfield 228, 3, [12, 21, 6216, 0], 0) :: (16, .aload_n 0, 1, [], 0) :: (17, .getfield 228, 3, [12, 21, 6216, 0], 0) :: (20, .bipush 100, 2, [], 0) :: (22, .if_icmp .le 5, 3, [27], 0) :: (25, .iconst (-1), 1, [], 0) :: (26, .ireturn, 1, [], 0) :: c267_27
def c267_0 : List JE := (0, .iload_n 1, 1, [], 0) :: (1, .ifCond .ne 5, 3, [6], 0) :: (4, .iconst (-1), 1, [], 0) :: (5, .ireturn, 1, [], 0) :: c267_6
/-! 268 SueOrSettleModel.lead(III)V -/
def c268_5 : List JE := (5, .aload_n 0, 1, [], 0) :: (6, .getfield 38, 3, [12, 13, 6208, 0], 0) :: (9, .iconst 4, 1, [], 0) :: (10, .iload_n 1, 1, [], 0) :: (11, .imul, 1, [], 0) :: (12, .iload_n 2, 1, [], 0) :: (13, .iadd, 1, [], 0) :: (14, .aload_n 0, 1, [], 0) :: (15, .getfield 228, 3, [12, 21, 6216, 0], 0) :: (18, .i2b, 1, [], 0) :: (19, .bastore, 1, [22], 0) :: (20, .aload_n 0, 1, [], 0) :: (21, .getfield 41, 3, [12, 14, 6209, 0], 0) :: (24, .iconst 4, 1, [], 0) :: (25, .iload_n 1, 1, [], 0) :: (26, .imul, 1, [], 0) :: (27, .iload_n 2, 1, [], 0) :: (28, .iadd, 1, [], 0) :: (29, .iload_n 3, 1, [], 0) :: (30, .iastore, 1, [], 0) :: (31, .return_, 1, [], 0) :: []
def c268_0 : List JE := (0, .iload_n 1, 1, [], 0) :: (1, .ifCond .ge 4, 3, [5], 0) :: (4, .return_, 1, [], 0) :: c268_5
/-! 269 SueOrSettleModel.readEnd(IZ)I -/
def c269_116 : List JE := (116, .invokevirtual 237, 3, [5, 3, 267, 12, 8022, 8024, 73, 1008], 0) :: (119, .pop, 1, [], 0) :: (120, .iload_n 3, 1, [], 0) :: (121, .ireturn, 1, [], 0) :: []
def c269_114 : List JE := (114, .iload 5, 2, [], 0) :: c269_116
def c269_100 : List JE := (100, .aload_n 0, 1, [], 0) :: (101, .iload_n 2, 1, [], 0) :: (102, .iconst 0, 1, [], 0) :: (103, .iload 4, 2, [], 0) :: (105, .ifCond .eq 9, 3, [114], 0) :: (108, .iload 5, 2, [], 0) :: (110, .ineg, 1, [], 0) :: (111, .goto 5, 3, [116], 0) :: c269_114
def c269_86 : List JE := (86, .aload_n 0, 1, [], 0) :: (87, .iload_n 3, 1, [], 0) :: (88, .invokevirtual 231, 3, [5, 1, 265, 12, 8026, 8028, 74, 1008], 0) :: (91, .ifCond .eq 9, 3, [100], 0) :: (94, .aload_n 0, 1, [], 0) :: (95, .iload_n 3, 1, [], 0) :: (96, .invokevirtual 234, 3, [5, 1, 266, 12, 8010, 8012, 70, 1008], 0) :: (99, .ireturn, 1, [], 0) :: c269_100
def c269_47 : List JE := (47, .iload 6, 2, [], 0) :: (49, .iconst 3, 1, [], 0) :: (50, .if_icmp .ge 36, 3, [86], 0) :: (53, .aload_n 0, 1, [], 0) :: (54, .iload_n 3, 1, [], 0) :: (55, .invokevirtual 231, 3, [5, 1, 265, 12, 8026, 8028, 74, 1008], 0) :: (58, .ifCond .eq 28, 3, [86], 0) :: (61, .bipush 10, 2, [], 0) :: (63, .iload 5, 2, [], 0) :: (65, .imul, 1, [], 0) :: (66, .aload_n 0, 1, [], 0) :: (67, .iload_n 3, 1, [], 0) :: (68, .invokevirtual 222, 3, [5, 1, 264, 12, 8006, 8008, 69, 1008], 0) :: (71, .iadd, 1, [], 0) :: (72, .bipush 48, 2, [], 0) :: (74, .isub, 1, [], 0) :: (75, .istore 5, 2, [], 0) :: (77, .iinc 6 1, 3, [], 0) :: (80, .iinc 3 1, 3, [], 0) :: (83, .goto (-36), 3, [47], 0) :: c269_86
def c269_41 : List JE := (41, .iconst 0, 1, [], 0) :: (42, .istore 5, 2, [], 0) :: (44, .iconst 0, 1, [], 0) :: (45, .istore 6, 2, [], 0) :: c269_47
def c269_27 : List JE := (27, .aload_n 0, 1, [], 0) :: (28, .iload_n 3, 1, [], 0) :: (29, .invokevirtual 231, 3, [5, 1, 265, 12, 8026, 8028, 74, 1008], 0) :: (32, .ifCond .ne 9, 3, [41], 0) :: (35, .aload_n 0, 1, [], 0) :: (36, .iload_n 3, 1, [], 0) :: (37, .invokevirtual 234, 3, [5, 1, 266, 12, 8010, 8012, 70, 1008], 0) :: (40, .ireturn, 1, [], 0) :: c269_41
def c269_17 : List JE := (17, .istore 4, 2, [], 0) :: (19, .iload 4, 2, [], 0) :: (21, .ifCond .eq 6, 3, [27], 0) :: (24, .iinc 3 1, 3, [], 0) :: c269_27
def c269_16 : List JE := (16, .iconst 0, 1, [], 0) :: c269_17
def c269_0 : List JE := (0, .iload_n 1, 1, [], 0) :: (1, .istore_n 3, 1, [], 0) :: (2, .aload_n 0, 1, [], 0) :: (3, .iload_n 3, 1, [], 0) :: (4, .invokevirtual 222, 3, [5, 1, 264, 12, 8006, 8008, 69, 1008], 0) :: (7, .bipush 45, 2, [], 0) :: (9, .if_icmp .ne 7, 3, [16], 0) :: (12, .iconst 1, 1, [], 0) :: (13, .goto 4, 3, [17], 0) :: c269_16
/-! 270 SueOrSettleModel.readChoice(IIIZ)I -/
def c270_209 : List JE := (209, .iload 5, 2, [], 0) :: (211, .iconst 1, 1, [], 0) :: (212, .iadd, 1, [], 0) :: (213, .ireturn, 1, [], 0) :: []
def c270_195 : List JE := (195, .iload 6, 2, [], 0) :: (197, .ifCond .lt 12, 3, [209], 0) :: (200, .aload_n 0, 1, [], 0) :: (201, .getfield 35, 3, [12, 12, 6207, 0], 0) :: (204, .iload 6, 2, [], 0) :: (206, .iload 7, 2, [], 0) :: (208, .iastore, 1, [], 0) :: c270_209
def c270_189 : List JE := (189, .iinc 5 1, 3, [], 0) :: (192, .goto (-147), 3, [45], 0) :: c270_195
def c270_182 : List JE := (182, .aload_n 0, 1, [], 0) :: (183, .iload 5, 2, [], 0) :: (185, .invokevirtual 234, 3, [5, 1, 266, 12, 8010, 8012, 70, 1008], 0) :: (188, .ireturn, 1, [], 0) :: c270_189
def c270_165 : List JE := (165, .aload_n 0, 1, [], 0) :: (166, .iload 5, 2, [], 0) :: (168, .invokevirtual 222, 3, [5, 1, 264, 12, 8006, 8008, 69, 1008], 0) :: (171, .bipush 44, 2, [], 0) :: (173, .if_icmp .ne 9, 3, [182], 0) :: (176, .iload 7, 2, [], 0) :: (178, .iconst 4, 1, [], 0) :: (179, .if_icmp .ne 10, 3, [189], 0) :: c270_182
def c270_148 : List JE := (148, .iinc 7 1, 3, [], 0) :: (151, .aload_n 0, 1, [], 0) :: (152, .iload 5, 2, [], 0) :: (154, .invokevirtual 222, 3, [5, 1, 264, 12, 8006, 8008, 69, 1008], 0) :: (157, .bipush 41, 2, [], 0) :: (159, .if_icmp .ne 6, 3, [165], 0) :: (162, .goto 33, 3, [195], 0) :: c270_165
def c270_115 : List JE := (115, .aload_n 0, 1, [], 0) :: (116, .iload 6, 2, [], 0) :: (118, .iload 7, 2, [], 0) :: (120, .iload 8, 2, [], 0) :: (122, .invokevirtual 241, 3, [5, 3, 268, 12, 8030, 8032, 75, 1008], 0) :: (125, .aload_n 0, 1, [], 0) :: (126, .iload 5, 2, [], 0) :: (128, .iconst 1, 1, [], 0) :: (129, .iadd, 1, [], 0) :: (130, .iload_n 2, 1, [], 0) :: (131, .iload_n 3, 1, [], 0) :: (132, .iconst 1, 1, [], 0) :: (133, .iadd, 1, [], 0) :: (134, .iload 4, 2, [], 0) :: (136, .invokevirtual 245, 3, [5, 4, 272, 12, 8014, 8016, 71, 1008], 0) :: (139, .istore 5, 2, [], 0) :: (141, .iload 5, 2, [], 0) :: (143, .ifCond .ge 5, 3, [148], 0) :: (146, .iconst (-1), 1, [], 0) :: (147, .ireturn, 1, [], 0) :: c270_148
def c270_108 : List JE := (108, .aload_n 0, 1, [], 0) :: (109, .iload 5, 2, [], 0) :: (111, .invokevirtual 234, 3, [5, 1, 266, 12, 8010, 8012, 70, 1008], 0) :: (114, .ireturn, 1, [], 0) :: c270_115
def c270_92 : List JE := (92, .iload 9, 2, [], 0) :: (94, .ifCond .eq 14, 3, [108], 0) :: (97, .aload_n 0, 1, [], 0) :: (98, .iload 5, 2, [], 0) :: (100, .invokevirtual 222, 3, [5, 1, 264, 12, 8006, 8008, 69, 1008], 0) :: (103, .bipush 58, 2, [], 0) :: (105, .if_icmp .eq 10, 3, [115], 0) :: c270_108
def c270_51 : List JE := (51, .iload 9, 2, [], 0) :: (53, .iconst 2, 1, [], 0) :: (54, .if_icmp .ge 38, 3, [92], 0) :: (57, .aload_n 0, 1, [], 0) :: (58, .iload 5, 2, [], 0) :: (60, .invokevirtual 231, 3, [5, 1, 265, 12, 8026, 8028, 74, 1008], 0) :: (63, .ifCond .eq 29, 3, [92], 0) :: (66, .bipush 10, 2, [], 0) :: (68, .iload 8, 2, [], 0) :: (70, .imul, 1, [], 0) :: (71, .aload_n 0, 1, [], 0) :: (72, .iload 5, 2, [], 0) :: (74, .invokevirtual 222, 3, [5, 1, 264, 12, 8006, 8008, 69, 1008], 0) :: (77, .iadd, 1, [], 0) :: (78, .bipush 48, 2, [], 0) :: (80, .isub, 1, [], 0) :: (81, .istore 8, 2, [], 0) :: (83, .iinc 9 1, 3, [], 0) :: (86, .iinc 5 1, 3, [], 0) :: (89, .goto (-38), 3, [51], 0) :: c270_92
def c270_45 : List JE := (45, .iconst 0, 1, [], 0) :: (46, .istore 8, 2, [], 0) :: (48, .iconst 0, 1, [], 0) :: (49, .istore 9, 2, [], 0) :: c270_51
def c270_29 : List JE := (29, .aload_n 0, 1, [], 0) :: (30, .iload 4, 2, [], 0) :: (32, .iconst 1, 1, [], 0) :: (33, .iconst 0, 1, [], 0) :: (34, .invokevirtual 237, 3, [5, 3, 267, 12, 8022, 8024, 73, 1008], 0) :: (37, .istore 6, 2, [], 0) :: (39, .iconst 0, 1, [], 0) :: (40, .istore 7, 2, [], 0) :: (42, .iinc 5 1, 3, [], 0) :: c270_45
def c270_22 : List JE := (22, .aload_n 0, 1, [], 0) :: (23, .iload 5, 2, [], 0) :: (25, .invokevirtual 234, 3, [5, 1, 266, 12, 8010, 8012, 70, 1008], 0) :: (28, .ireturn, 1, [], 0) :: c270_29
def c270_0 : List JE := (0, .iload_n 1, 1, [], 0) :: (1, .iconst 1, 1, [], 0) :: (2, .iadd, 1, [], 0) :: (3, .istore 5, 2, [], 0) :: (5, .aload_n 0, 1, [], 0) :: (6, .iload 5, 2, [], 0) :: (8, .invokevirtual 222, 3, [5, 1, 264, 12, 8006, 8008, 69, 1008], 0) :: (11, .bipush 40, 2, [], 0) :: (13, .if_icmp .ne 9, 3, [22], 0) :: (16, .iload_n 3, 1, [], 0) :: (17, .bipush 12, 2, [], 0) :: (19, .if_icmp .ne 10, 3, [29], 0) :: c270_22
/-! 271 SueOrSettleModel.readTurns(IIIZ)I -/
def c271_178 : List JE := (178, .iload 6, 2, [], 0) :: (180, .ireturn, 1, [], 0) :: []
def c271_169 : List JE := (169, .iinc 6 1, 3, [], 0) :: (172, .iinc 8 1, 3, [], 0) :: (175, .goto (-90), 3, [85], 0) :: c271_178
def c271_159 : List JE := (159, .if_icmp .eq 10, 3, [169], 0) :: (162, .aload_n 0, 1, [], 0) :: (163, .iload 6, 2, [], 0) :: (165, .invokevirtual 234, 3, [5, 1, 266, 12, 8010, 8012, 70, 1008], 0) :: (168, .ireturn, 1, [], 0) :: c271_169
def c271_157 : List JE := (157, .bipush 41, 2, [], 0) :: c271_159
def c271_132 : List JE := (132, .aload_n 0, 1, [], 0) :: (133, .iload 6, 2, [], 0) :: (135, .invokevirtual 222, 3, [5, 1, 264, 12, 8006, 8008, 69, 1008], 0) :: (138, .iload 8, 2, [], 0) :: (140, .iconst 1, 1, [], 0) :: (141, .iadd, 1, [], 0) :: (142, .aload_n 0, 1, [], 0) :: (143, .getfield 9, 3, [12, 2, 6197, 0], 0) :: (146, .iload 5, 2, [], 0) :: (148, .iaload, 1, [], 0) :: (149, .if_icmp .ge 8, 3, [157], 0) :: (152, .bipush 44, 2, [], 0) :: (154, .goto 5, 3, [159], 0) :: c271_157
def c271_85 : List JE := (85, .iload 8, 2, [], 0) :: (87, .aload_n 0, 1, [], 0) :: (88, .getfield 9, 3, [12, 2, 6197, 0], 0) :: (91, .iload 5, 2, [], 0) :: (93, .iaload, 1, [], 0) :: (94, .if_icmp .ge 84, 3, [178], 0) :: (97, .aload_n 0, 1, [], 0) :: (98, .iload 7, 2, [], 0) :: (100, .iload 8, 2, [], 0) :: (102, .iconst 0, 1, [], 0) :: (103, .invokevirtual 241, 3, [5, 3, 268, 12, 8030, 8032, 75, 1008], 0) :: (106, .aload_n 0, 1, [], 0) :: (107, .iload 6, 2, [], 0) :: (109, .iload_n 2, 1, [], 0) :: (110, .iconst 1, 1, [], 0) :: (111, .iload 5, 2, [], 0) :: (113, .ishl, 1, [], 0) :: (114, .ior, 1, [], 0) :: (115, .iload_n 3, 1, [], 0) :: (116, .iconst 1, 1, [], 0) :: (117, .iadd, 1, [], 0) :: (118, .iload 4, 2, [], 0) :: (120, .invokevirtual 245, 3, [5, 4, 272, 12, 8014, 8016, 71, 1008], 0) :: (123, .istore 6, 2, [], 0) :: (125, .iload 6, 2, [], 0) :: (127, .ifCond .ge 5, 3, [132], 0) :: (130, .iconst (-1), 1, [], 0) :: (131, .ireturn, 1, [], 0) :: c271_132
def c271_68 : List JE := (68, .aload_n 0, 1, [], 0) :: (69, .iload 4, 2, [], 0) :: (71, .iconst 2, 1, [], 0) :: (72, .iload 5, 2, [], 0) :: (74, .invokevirtual 237, 3, [5, 3, 267, 12, 8022, 8024, 73, 1008], 0) :: (77, .istore 7, 2, [], 0) :: (79, .iinc 6 1, 3, [], 0) :: (82, .iconst 0, 1, [], 0) :: (83, .istore 8, 2, [], 0) :: c271_85
def c271_61 : List JE := (61, .aload_n 0, 1, [], 0) :: (62, .iload 6, 2, [], 0) :: (64, .invokevirtual 234, 3, [5, 1, 266, 12, 8010, 8012, 70, 1008], 0) :: (67, .ireturn, 1, [], 0) :: c271_68
def c271_39 : List JE := (39, .iload_n 1, 1, [], 0) :: (40, .iconst 2, 1, [], 0) :: (41, .iadd, 1, [], 0) :: (42, .istore 6, 2, [], 0) :: (44, .aload_n 0, 1, [], 0) :: (45, .iload 6, 2, [], 0) :: (47, .invokevirtual 222, 3, [5, 1, 264, 12, 8006, 8008, 69, 1008], 0) :: (50, .bipush 40, 2, [], 0) :: (52, .if_icmp .ne 9, 3, [61], 0) :: (55, .iload_n 3, 1, [], 0) :: (56, .bipush 12, 2, [], 0) :: (58, .if_icmp .ne 10, 3, [68], 0) :: c271_61
def c271_31 : List JE := (31, .aload_n 0, 1, [], 0) :: (32, .iload_n 1, 1, [], 0) :: (33, .iconst 1, 1, [], 0) :: (34, .iadd, 1, [], 0) :: (35, .invokevirtual 234, 3, [5, 1, 266, 12, 8010, 8012, 70, 1008], 0) :: (38, .ireturn, 1, [], 0) :: c271_39
def c271_0 : List JE := (0, .aload_n 0, 1, [], 0) :: (1, .iload_n 1, 1, [], 0) :: (2, .iconst 1, 1, [], 0) :: (3, .iadd, 1, [], 0) :: (4, .invokevirtual 222, 3, [5, 1, 264, 12, 8006, 8008, 69, 1008], 0) :: (7, .bipush 97, 2, [], 0) :: (9, .isub, 1, [], 0) :: (10, .istore 5, 2, [], 0) :: (12, .aload_n 0, 1, [], 0) :: (13, .iload 5, 2, [], 0) :: (15, .invokevirtual 152, 3, [5, 1, 245, 12, 7165, 7167, 57, 1008], 0) :: (18, .ifCond .eq 13, 3, [31], 0) :: (21, .iload_n 2, 1, [], 0) :: (22, .iload 5, 2, [], 0) :: (24, .ishr, 1, [], 0) :: (25, .iconst 1, 1, [], 0) :: (26, .iand, 1, [], 0) :: (27, .iconst 1, 1, [], 0) :: (28, .if_icmp .ne 11, 3, [39], 0) :: c271_31
/-! 272 SueOrSettleModel.readNode(IIIZ)I -/
def c272_116 : List JE := (116, .iload_n 1, 1, [], 0) :: (117, .iconst 1, 1, [], 0) :: (118, .iadd, 1, [], 0) :: (119, .ireturn, 1, [], 0) :: []
def c272_92 : List JE := (92, .aload_n 0, 1, [], 0) :: (93, .aload_n 0, 1, [], 0) :: (94, .getfield 50, 3, [12, 18, 6213, 0], 0) :: (97, .iload 6, 2, [], 0) :: (99, .iaload, 1, [], 0) :: (100, .iload_n 2, 1, [], 0) :: (101, .iload_n 3, 1, [], 0) :: (102, .iload 4, 2, [], 0) :: (104, .invokevirtual 245, 3, [5, 4, 272, 12, 8014, 8016, 71, 1008], 0) :: (107, .ifCond .ge 9, 3, [116], 0) :: (110, .aload_n 0, 1, [], 0) :: (111, .iload_n 1, 1, [], 0) :: (112, .invokevirtual 234, 3, [5, 1, 266, 12, 8010, 8012, 70, 1008], 0) :: (115, .ireturn, 1, [], 0) :: c272_116
def c272_64 : List JE := (64, .iload 5, 2, [], 0) :: (66, .bipush 65, 2, [], 0) :: (68, .isub, 1, [], 0) :: (69, .istore 6, 2, [], 0) :: (71, .iload 6, 2, [], 0) :: (73, .iconst 0, 1, [], 0) :: (74, .aload_n 0, 1, [], 0) :: (75, .getfield 259, 3, [12, 19, 6214, 0], 0) :: (78, .iconst 1, 1, [], 0) :: (79, .isub, 1, [], 0) :: (80, .invokestatic 145, 3, [0, 3, 242, 7158, 7159, 1008], 0) :: (83, .ifCond .ne 9, 3, [92], 0) :: (86, .aload_n 0, 1, [], 0) :: (87, .iload_n 1, 1, [], 0) :: (88, .invokevirtual 234, 3, [5, 1, 266, 12, 8010, 8012, 70, 1008], 0) :: (91, .ireturn, 1, [], 0) :: c272_92
def c272_56 : List JE := (56, .aload_n 0, 1, [], 0) :: (57, .iload_n 1, 1, [], 0) :: (58, .iload 4, 2, [], 0) :: (60, .invokevirtual 255, 3, [5, 2, 269, 12, 8038, 8040, 77, 1008], 0) :: (63, .ireturn, 1, [], 0) :: c272_64
def c272_41 : List JE := (41, .iload 5, 2, [], 0) :: (43, .bipush 45, 2, [], 0) :: (45, .if_icmp .eq 11, 3, [56], 0) :: (48, .aload_n 0, 1, [], 0) :: (49, .iload_n 1, 1, [], 0) :: (50, .invokevirtual 231, 3, [5, 1, 265, 12, 8026, 8028, 74, 1008], 0) :: (53, .ifCond .eq 11, 3, [64], 0) :: c272_56
def c272_24 : List JE := (24, .iload 5, 2, [], 0) :: (26, .bipush 33, 2, [], 0) :: (28, .if_icmp .ne 13, 3, [41], 0) :: (31, .aload_n 0, 1, [], 0) :: (32, .iload_n 1, 1, [], 0) :: (33, .iload_n 2, 1, [], 0) :: (34, .iload_n 3, 1, [], 0) :: (35, .iload 4, 2, [], 0) :: (37, .invokevirtual 252, 3, [5, 4, 271, 12, 8034, 8036, 76, 1008], 0) :: (40, .ireturn, 1, [], 0) :: c272_41
def c272_0 : List JE := (0, .aload_n 0, 1, [], 0) :: (1, .iload_n 1, 1, [], 0) :: (2, .invokevirtual 222, 3, [5, 1, 264, 12, 8006, 8008, 69, 1008], 0) :: (5, .istore 5, 2, [], 0) :: (7, .iload 5, 2, [], 0) :: (9, .bipush 63, 2, [], 0) :: (11, .if_icmp .ne 13, 3, [24], 0) :: (14, .aload_n 0, 1, [], 0) :: (15, .iload_n 1, 1, [], 0) :: (16, .iload_n 2, 1, [], 0) :: (17, .iload_n 3, 1, [], 0) :: (18, .iload 4, 2, [], 0) :: (20, .invokevirtual 249, 3, [5, 4, 270, 12, 8018, 8020, 72, 1008], 0) :: (23, .ireturn, 1, [], 0) :: c272_24
/-! 273 SueOrSettleModel.readAll()I -/
def c273_146 : List JE := (146, .ireturn, 1, [], 0) :: []
def c273_145 : List JE := (145, .iload_n 1, 1, [], 0) :: c273_146
def c273_129 : List JE := (129, .iload_n 1, 1, [], 0) :: (130, .aload_n 0, 1, [], 0) :: (131, .getfield 219, 3, [12, 17, 6212, 0], 0) :: (134, .if_icmp .ge 11, 3, [145], 0) :: (137, .aload_n 0, 1, [], 0) :: (138, .iload_n 1, 1, [], 0) :: (139, .invokevirtual 234, 3, [5, 1, 266, 12, 8010, 8012, 70, 1008], 0) :: (142, .goto 4, 3, [146], 0) :: c273_145
def c273_112 : List JE := (112, .aload_n 0, 1, [], 0) :: (113, .iload_n 1, 1, [], 0) :: (114, .iconst 0, 1, [], 0) :: (115, .iconst 0, 1, [], 0) :: (116, .iconst 1, 1, [], 0) :: (117, .invokevirtual 245, 3, [5, 4, 272, 12, 8014, 8016, 71, 1008], 0) :: (120, .istore_n 1, 1, [], 0) :: (121, .iload_n 1, 1, [], 0) :: (122, .ifCond .ge 7, 3, [129], 0) :: (125, .iconst (-1), 1, [], 0) :: (126, .goto 20, 3, [146], 0) :: c273_129
def c273_86 : List JE := (86, .aload_n 0, 1, [], 0) :: (87, .getfield 50, 3, [12, 18, 6213, 0], 0) :: (90, .aload_n 0, 1, [], 0) :: (91, .getfield 259, 3, [12, 19, 6214, 0], 0) :: (94, .iload_n 2, 1, [], 0) :: (95, .iastore, 1, [], 0) :: (96, .aload_n 0, 1, [], 0) :: (97, .dup, 1, [], 0) :: (98, .getfield 259, 3, [12, 19, 6214, 0], 0) :: (101, .iconst 1, 1, [], 0) :: (102, .iadd, 1, [], 0) :: (103, .putfield 259, 3, [12, 19, 6214, 0], 0) :: (106, .iinc 1 1, 3, [], 0) :: (109, .goto (-102), 3, [7], 0) :: c273_112
def c273_70 : List JE := (70, .aload_n 0, 1, [], 0) :: (71, .iload_n 1, 1, [], 0) :: (72, .invokevirtual 222, 3, [5, 1, 264, 12, 8006, 8008, 69, 1008], 0) :: (75, .bipush 59, 2, [], 0) :: (77, .if_icmp .eq 9, 3, [86], 0) :: (80, .aload_n 0, 1, [], 0) :: (81, .iload_n 1, 1, [], 0) :: (82, .invokevirtual 234, 3, [5, 1, 266, 12, 8010, 8012, 70, 1008], 0) :: (85, .ireturn, 1, [], 0) :: c273_86
def c273_51 : List JE := (51, .iload_n 1, 1, [], 0) :: (52, .iconst 2, 1, [], 0) :: (53, .iadd, 1, [], 0) :: (54, .istore_n 2, 1, [], 0) :: (55, .aload_n 0, 1, [], 0) :: (56, .iload_n 2, 1, [], 0) :: (57, .iconst 0, 1, [], 0) :: (58, .iconst 0, 1, [], 0) :: (59, .iconst 0, 1, [], 0) :: (60, .invokevirtual 245, 3, [5, 4, 272, 12, 8014, 8016, 71, 1008], 0) :: (63, .istore_n 1, 1, [], 0) :: (64, .iload_n 1, 1, [], 0) :: (65, .ifCond .ge 5, 3, [70], 0) :: (68, .iconst (-1), 1, [], 0) :: (69, .ireturn, 1, [], 0) :: c273_70
def c273_7 : List JE := (7, .aload_n 0, 1, [], 0) :: (8, .getfield 259, 3, [12, 19, 6214, 0], 0) :: (11, .bipush 6, 2, [], 0) :: (13, .if_icmp .ge 99, 3, [112], 0) :: (16, .aload_n 0, 1, [], 0) :: (17, .iload_n 1, 1, [], 0) :: (18, .invokevirtual 222, 3, [5, 1, 264, 12, 8006, 8008, 69, 1008], 0) :: (21, .bipush 65, 2, [], 0) :: (23, .aload_n 0, 1, [], 0) :: (24, .getfield 259, 3, [12, 19, 6214, 0], 0) :: (27, .iadd, 1, [], 0) :: (28, .if_icmp .ne 84, 3, [112], 0) :: (31, .aload_n 0, 1, [], 0) :: (32, .iload_n 1, 1, [], 0) :: (33, .iconst 1, 1, [], 0) :: (34, .iadd, 1, [], 0) :: (35, .invokevirtual 222, 3, [5, 1, 264, 12, 8006, 8008, 69, 1008], 0) :: (38, .bipush 61, 2, [], 0) :: (40, .if_icmp .eq 11, 3, [51], 0) :: (43, .aload_n 0, 1, [], 0) :: (44, .iload_n 1, 1, [], 0) :: (45, .iconst 1, 1, [], 0) :: (46, .iadd, 1, [], 0) :: (47, .invokevirtual 234, 3, [5, 1, 266, 12, 8010, 8012, 70, 1008], 0) :: (50, .ireturn, 1, [], 0) :: c273_51
def c273_0 : List JE := (0, .iconst 0, 1, [], 0) :: (1, .istore_n 1, 1, [], 0) :: (2, .aload_n 0, 1, [], 0) :: (3, .iconst 0, 1, [], 0) :: (4, .putfield 259, 3, [12, 19, 6214, 0], 0) :: c273_7
/-! 274 SueOrSettleModel.quarrel()I -/
def c274_56 : List JE := (56, .aload_n 0, 1, [], 0) :: (57, .getfield 28, 3, [12, 10, 6205, 0], 0) :: (60, .aload_n 0, 1, [], 0) :: (61, .getfield 149, 3, [12, 9, 6204, 0], 0) :: (64, .aload_n 0, 1, [], 0) :: (65, .getfield 228, 3, [12, 21, 6216, 0], 0) :: (68, .iastore, 1, [], 0) :: (69, .aload_n 0, 1, [], 0) :: (70, .dup, 1, [], 0) :: (71, .getfield 149, 3, [12, 9, 6204, 0], 0) :: (74, .iconst 1, 1, [], 0) :: (75, .iadd, 1, [], 0) :: (76, .putfield 149, 3, [12, 9, 6204, 0], 0) :: (79, .aload_n 0, 1, [], 0) :: (80, .getfield 149, 3, [12, 9, 6204, 0], 0) :: (83, .iconst 1, 1, [], 0) :: (84, .isub, 1, [], 0) :: (85, .ireturn, 1, [], 0) :: []
def c274_44 : List JE := (44, .aload_n 0, 1, [], 0) :: (45, .getfield 228, 3, [12, 21, 6216, 0], 0) :: (48, .bipush 100, 2, [], 0) :: (50, .if_icmp .le 6, 3, [56], 0) :: (53, .bipush (-3), 2, [], 0) :: (55, .ireturn, 1, [], 0) :: c274_56
def c274_12 : List JE := (12, .aload_n 0, 1, [], 0) :: (13, .iconst (-1), 1, [], 0) :: (14, .putfield 225, 3, [12, 20, 6215, 0], 0) :: (17, .aload_n 0, 1, [], 0) :: (18, .iconst 0, 1, [], 0) :: (19, .putfield 228, 3, [12, 21, 6216, 0], 0) :: (22, .aload_n 0, 1, [], 0) :: (23, .invokevirtual 262, 3, [5, 0, 273, 12, 8002, 8004, 68, 1008], 0) :: (26, .istore_n 1, 1, [], 0) :: (27, .aload_n 0, 1, [], 0) :: (28, .iconst 0, 1, [], 0) :: (29, .putfield 219, 3, [12, 17, 6212, 0], 0) :: (32, .iload_n 1, 1, [], 0) :: (33, .ifCond .ge 11, 3, [44], 0) :: (36, .bipush (-100), 2, [], 0) :: (38, .aload_n 0, 1, [], 0) :: (39, .getfield 225, 3, [12, 20, 6215, 0], 0) :: (42, .isub, 1, [], 0) :: (43, .ireturn, 1, [], 0) :: c274_44
def c274_0 : List JE := (0, .aload_n 0, 1, [], 0) :: (1, .getfield 149, 3, [12, 9, 6204, 0], 0) :: (4, .bipush 6, 2, [], 0) :: (6, .if_icmp .ne 6, 3, [12], 0) :: (9, .bipush (-3), 2, [], 0) :: (11, .ireturn, 1, [], 0) :: c274_12
/-! 275 SueOrSettleModel.node(III)I -/
def c275_152 : List JE := (152, .ireturn, 1, [], 0) :: []
def c275_149 : List JE := (149, .ldc_w 266, 3, [8050], (-2000000000)) :: c275_152
def c275_107 : List JE := (107, .aload_n 0, 1, [], 0) :: (108, .getfield 31, 3, [12, 11, 6206, 0], 0) :: (111, .iload 4, 2, [], 0) :: (113, .baload, 1, [22], 0) :: (114, .iconst 1, 1, [], 0) :: (115, .if_icmp .ne 34, 3, [149], 0) :: (118, .iload_n 3, 1, [], 0) :: (119, .bipush 20, 2, [], 0) :: (121, .bipush 19, 2, [], 0) :: (123, .iload 5, 2, [], 0) :: (125, .iadd, 1, [], 0) :: (126, .invokestatic 145, 3, [0, 3, 242, 7158, 7159, 1008], 0) :: (129, .ifCond .eq 20, 3, [149], 0) :: (132, .aload_n 0, 1, [], 0) :: (133, .getfield 41, 3, [12, 14, 6209, 0], 0) :: (136, .iconst 4, 1, [], 0) :: (137, .iload 4, 2, [], 0) :: (139, .imul, 1, [], 0) :: (140, .iload_n 3, 1, [], 0) :: (141, .iadd, 1, [], 0) :: (142, .bipush 20, 2, [], 0) :: (144, .isub, 1, [], 0) :: (145, .iaload, 1, [], 0) :: (146, .goto 6, 3, [152], 0) :: c275_149
def c275_70 : List JE := (70, .aload_n 0, 1, [], 0) :: (71, .iload 4, 2, [], 0) :: (73, .invokevirtual 270, 3, [5, 1, 276, 12, 8055, 8057, 80, 1008], 0) :: (76, .istore 5, 2, [], 0) :: (78, .iload_n 3, 1, [], 0) :: (79, .bipush 10, 2, [], 0) :: (81, .bipush 9, 2, [], 0) :: (83, .iload 5, 2, [], 0) :: (85, .iadd, 1, [], 0) :: (86, .invokestatic 145, 3, [0, 3, 242, 7158, 7159, 1008], 0) :: (89, .ifCond .eq 18, 3, [107], 0) :: (92, .aload_n 0, 1, [], 0) :: (93, .getfield 38, 3, [12, 13, 6208, 0], 0) :: (96, .iconst 4, 1, [], 0) :: (97, .iload 4, 2, [], 0) :: (99, .imul, 1, [], 0) :: (100, .iload_n 3, 1, [], 0) :: (101, .iadd, 1, [], 0) :: (102, .bipush 10, 2, [], 0) :: (104, .isub, 1, [], 0) :: (105, .baload, 1, [22], 0) :: (106, .ireturn, 1, [], 0) :: c275_107
def c275_57 : List JE := (57, .iload_n 3, 1, [], 0) :: (58, .iconst 1, 1, [], 0) :: (59, .if_icmp .ne 11, 3, [70], 0) :: (62, .aload_n 0, 1, [], 0) :: (63, .getfield 35, 3, [12, 12, 6207, 0], 0) :: (66, .iload 4, 2, [], 0) :: (68, .iaload, 1, [], 0) :: (69, .ireturn, 1, [], 0) :: c275_70
def c275_37 : List JE := (37, .bipush 100, 2, [], 0) :: (39, .iload_n 1, 1, [], 0) :: (40, .imul, 1, [], 0) :: (41, .iload_n 2, 1, [], 0) :: (42, .iadd, 1, [], 0) :: (43, .istore 4, 2, [], 0) :: (45, .iload_n 3, 1, [], 0) :: (46, .ifCond .ne 11, 3, [57], 0) :: (49, .aload_n 0, 1, [], 0) :: (50, .getfield 31, 3, [12, 11, 6206, 0], 0) :: (53, .iload 4, 2, [], 0) :: (55, .baload, 1, [22], 0) :: (56, .ireturn, 1, [], 0) :: c275_57
def c275_24 : List JE := (24, .aload_n 0, 1, [], 0) :: (25, .iload_n 1, 1, [], 0) :: (26, .iload_n 2, 1, [], 0) :: (27, .invokevirtual 267, 3, [5, 2, 262, 12, 8051, 8053, 79, 1008], 0) :: (30, .ifCond .ne 7, 3, [37], 0) :: (33, .ldc_w 266, 3, [8050], (-2000000000)) :: (36, .ireturn, 1, [], 0) :: c275_37
def c275_12 : List JE := (12, .iload_n 3, 1, [], 0) :: (13, .iconst 2, 1, [], 0) :: (14, .if_icmp .ne 10, 3, [24], 0) :: (17, .aload_n 0, 1, [], 0) :: (18, .getfield 28, 3, [12, 10, 6205, 0], 0) :: (21, .iload_n 1, 1, [], 0) :: (22, .iaload, 1, [], 0) :: (23, .ireturn, 1, [], 0) :: c275_24
def c275_0 : List JE := (0, .aload_n 0, 1, [], 0) :: (1, .iload_n 1, 1, [], 0) :: (2, .invokevirtual 216, 3, [5, 1, 261, 12, 8046, 8048, 78, 1008], 0) :: (5, .ifCond .ne 7, 3, [12], 0) :: (8, .ldc_w 266, 3, [8050], (-2000000000)) :: (11, .ireturn, 1, [], 0) :: c275_12
/-! 276 SueOrSettleModel.waysOf(I)I -/
def c276_44 : List JE := (44, .ireturn, 1, [], 0) :: []
def c276_43 : List JE := (43, .iconst 0, 1, [], 0) :: c276_44
def c276_19 : List JE := (19, .aload_n 0, 1, [], 0) :: (20, .getfield 31, 3, [12, 11, 6206, 0], 0) :: (23, .iload_n 1, 1, [], 0) :: (24, .baload, 1, [22], 0) :: (25, .iconst 2, 1, [], 0) :: (26, .if_icmp .ne 17, 3, [43], 0) :: (29, .aload_n 0, 1, [], 0) :: (30, .getfield 9, 3, [12, 2, 6197, 0], 0) :: (33, .aload_n 0, 1, [], 0) :: (34, .getfield 35, 3, [12, 12, 6207, 0], 0) :: (37, .iload_n 1, 1, [], 0) :: (38, .iaload, 1, [], 0) :: (39, .iaload, 1, [], 0) :: (40, .goto 4, 3, [44], 0) :: c276_43
def c276_0 : List JE := (0, .aload_n 0, 1, [], 0) :: (1, .getfield 31, 3, [12, 11, 6206, 0], 0) :: (4, .iload_n 1, 1, [], 0) :: (5, .baload, 1, [22], 0) :: (6, .iconst 1, 1, [], 0) :: (7, .if_icmp .ne 12, 3, [19], 0) :: (10, .aload_n 0, 1, [], 0) :: (11, .getfield 35, 3, [12, 12, 6207, 0], 0) :: (14, .iload_n 1, 1, [], 0) :: (15, .iaload, 1, [], 0) :: (16, .goto 28, 3, [44], 0) :: c276_19
/-! 277 SueOrSettleModel.isChoice(II)Z -/
def c277_29 : List JE := (29, .ireturn, 1, [1], 0) :: []
def c277_28 : List JE := (28, .iconst 0, 1, [], 0) :: c277_29
def c277_0 : List JE := (0, .aload_n 0, 1, [], 0) :: (1, .iload_n 1, 1, [], 0) :: (2, .iload_n 2, 1, [], 0) :: (3, .invokevirtual 267, 3, [5, 2, 262, 12, 8051, 8053, 79, 1008], 0) :: (6, .ifCond .eq 22, 3, [28], 0) :: (9, .aload_n 0, 1, [], 0) :: (10, .getfield 31, 3, [12, 11, 6206, 0], 0) :: (13, .bipush 100, 2, [], 0) :: (15, .iload_n 1, 1, [], 0) :: (16, .imul, 1, [], 0) :: (17, .iload_n 2, 1, [], 0) :: (18, .iadd, 1, [], 0) :: (19, .baload, 1, [22], 0) :: (20, .iconst 1, 1, [], 0) :: (21, .if_icmp .ne 7, 3, [28], 0) :: (24, .iconst 1, 1, [], 0) :: (25, .goto 4, 3, [29], 0) :: c277_28
/-! 278 SueOrSettleModel.isPlace(III)Z -/
def c278_71 : List JE := (71, .ireturn, 1, [1], 0) :: []
def c278_70 : List JE := (70, .iconst 0, 1, [], 0) :: c278_71
def c278_36 : List JE := (36, .aload_n 0, 1, [], 0) :: (37, .iload_n 1, 1, [], 0) :: (38, .iload_n 2, 1, [], 0) :: (39, .invokevirtual 273, 3, [5, 2, 277, 12, 8067, 8069, 82, 1008], 0) :: (42, .ifCond .eq 28, 3, [70], 0) :: (45, .iload_n 3, 1, [], 0) :: (46, .iconst 0, 1, [], 0) :: (47, .aload_n 0, 1, [], 0) :: (48, .getfield 35, 3, [12, 12, 6207, 0], 0) :: (51, .bipush 100, 2, [], 0) :: (53, .iload_n 1, 1, [], 0) :: (54, .imul, 1, [], 0) :: (55, .iload_n 2, 1, [], 0) :: (56, .iadd, 1, [], 0) :: (57, .iaload, 1, [], 0) :: (58, .iconst 1, 1, [], 0) :: (59, .isub, 1, [], 0) :: (60, .invokestatic 145, 3, [0, 3, 242, 7158, 7159, 1008], 0) :: (63, .ifCond .eq 7, 3, [70], 0) :: (66, .iconst 1, 1, [], 0) :: (67, .goto 4, 3, [71], 0) :: c278_70
def c278_32 : List JE := (32, .iconst 0, 1, [], 0) :: (33, .goto 38, 3, [71], 0) :: c278_36
def c278_0 : List JE := (0, .iload_n 3, 1, [], 0) :: (1, .iconst (-1), 1, [], 0) :: (2, .if_icmp .ne 34, 3, [36], 0) :: (5, .aload_n 0, 1, [], 0) :: (6, .iload_n 1, 1, [], 0) :: (7, .iload_n 2, 1, [], 0) :: (8, .invokevirtual 267, 3, [5, 2, 262, 12, 8051, 8053, 79, 1008], 0) :: (11, .ifCond .eq 21, 3, [32], 0) :: (14, .aload_n 0, 1, [], 0) :: (15, .getfield 31, 3, [12, 11, 6206, 0], 0) :: (18, .bipush 100, 2, [], 0) :: (20, .iload_n 1, 1, [], 0) :: (21, .imul, 1, [], 0) :: (22, .iload_n 2, 1, [], 0) :: (23, .iadd, 1, [], 0) :: (24, .baload, 1, [22], 0) :: (25, .ifCond .ne 7, 3, [32], 0) :: (28, .iconst 1, 1, [], 0) :: (29, .goto 42, 3, [71], 0) :: c278_32
/-! 279 SueOrSettleModel.note(IIII)V -/
def c279_104 : List JE := (104, .aload_n 0, 1, [], 0) :: (105, .getfield 53, 3, [12, 24, 6219, 0], 0) :: (108, .aload_n 0, 1, [], 0) :: (109, .getfield 156, 3, [12, 22, 6217, 0], 0) :: (112, .iload_n 1, 1, [], 0) :: (113, .iastore, 1, [], 0) :: (114, .aload_n 0, 1, [], 0) :: (115, .getfield 56, 3, [12, 25, 6220, 0], 0) :: (118, .aload_n 0, 1, [], 0) :: (119, .getfield 156, 3, [12, 22, 6217, 0], 0) :: (122, .iload_n 2, 1, [], 0) :: (123, .iastore, 1, [], 0) :: (124, .aload_n 0, 1, [], 0) :: (125, .getfield 59, 3, [12, 26, 6221, 0], 0) :: (128, .aload_n 0, 1, [], 0) :: (129, .getfield 156, 3, [12, 22, 6217, 0], 0) :: (132, .iload_n 3, 1, [], 0) :: (133, .iastore, 1, [], 0) :: (134, .aload_n 0, 1, [], 0) :: (135, .getfield 62, 3, [12, 27, 6222, 0], 0) :: (138, .aload_n 0, 1, [], 0) :: (139, .getfield 156, 3, [12, 22, 6217, 0], 0) :: (142, .iload 4, 2, [], 0) :: (144, .iastore, 1, [], 0) :: (145, .aload_n 0, 1, [], 0) :: (146, .dup, 1, [], 0) :: (147, .getfield 156, 3, [12, 22, 6217, 0], 0) :: (150, .iconst 1, 1, [], 0) :: (151, .iadd, 1, [], 0) :: (152, .putfield 156, 3, [12, 22, 6217, 0], 0) :: (155, .return_, 1, [], 0) :: []
def c279_94 : List JE := (94, .aload_n 0, 1, [], 0) :: (95, .dup, 1, [], 0) :: (96, .getfield 156, 3, [12, 22, 6217, 0], 0) :: (99, .iconst 1, 1, [], 0) :: (100, .isub, 1, [], 0) :: (101, .putfield 156, 3, [12, 22, 6217, 0], 0) :: c279_104
def c279_17 : List JE := (17, .iload 5, 2, [], 0) :: (19, .bipush 40, 2, [], 0) :: (21, .if_icmp .ge 73, 3, [94], 0) :: (24, .aload_n 0, 1, [], 0) :: (25, .getfield 53, 3, [12, 24, 6219, 0], 0) :: (28, .iload 5, 2, [], 0) :: (30, .iconst 1, 1, [], 0) :: (31, .isub, 1, [], 0) :: (32, .aload_n 0, 1, [], 0) :: (33, .getfield 53, 3, [12, 24, 6219, 0], 0) :: (36, .iload 5, 2, [], 0) :: (38, .iaload, 1, [], 0) :: (39, .iastore, 1, [], 0) :: (40, .aload_n 0, 1, [], 0) :: (41, .getfield 56, 3, [12, 25, 6220, 0], 0) :: (44, .iload 5, 2, [], 0) :: (46, .iconst 1, 1, [], 0) :: (47, .isub, 1, [], 0) :: (48, .aload_n 0, 1, [], 0) :: (49, .getfield 56, 3, [12, 25, 6220, 0], 0) :: (52, .iload 5, 2, [], 0) :: (54, .iaload, 1, [], 0) :: (55, .iastore, 1, [], 0) :: (56, .aload_n 0, 1, [], 0) :: (57, .getfield 59, 3, [12, 26, 6221, 0], 0) :: (60, .iload 5, 2, [], 0) :: (62, .iconst 1, 1, [], 0) :: (63, .isub, 1, [], 0) :: (64, .aload_n 0, 1, [], 0) :: (65, .getfield 59, 3, [12, 26, 6221, 0], 0) :: (68, .iload 5, 2, [], 0) :: (70, .iaload, 1, [], 0) :: (71, .iastore, 1, [], 0) :: (72, .aload_n 0, 1, [], 0) :: (73, .getfield 62, 3, [12, 27, 6222, 0], 0) :: (76, .iload 5, 2, [], 0) :: (78, .iconst 1, 1, [], 0) :: (79, .isub, 1, [], 0) :: (80, .aload_n 0, 1, [], 0) :: (81, .getfield 62, 3, [12, 27, 6222, 0], 0) :: (84, .iload 5, 2, [], 0) :: (86, .iaload, 1, [], 0) :: (87, .iastore, 1, [], 0) :: (88, .iinc 5 1, 3, [], 0) :: (91, .goto (-74), 3, [17], 0) :: c279_94
def c279_0 : List JE := (0, .aload_n 0, 1, [], 0) :: (1, .iconst 0, 1, [], 0) :: (2, .putfield 159, 3, [12, 23, 6218, 0], 0) :: (5, .aload_n 0, 1, [], 0) :: (6, .getfield 156, 3, [12, 22, 6217, 0], 0) :: (9, .bipush 40, 2, [], 0) :: (11, .if_icmp .ne 93, 3, [104], 0) :: (14, .iconst 1, 1, [], 0) :: (15, .istore 5, 2, [], 0) :: c279_17
/-! 280 SueOrSettleModel.set(III)V -/
def c280_35 : List JE := (35, .return_, 1, [], 0) :: []
def c280_28 : List JE := (28, .aload_n 0, 1, [], 0) :: (29, .getfield 41, 3, [12, 14, 6209, 0], 0) :: (32, .iload_n 2, 1, [], 0) :: (33, .iload_n 3, 1, [], 0) :: (34, .iastore, 1, [], 0) :: c280_35
def c280_14 : List JE := (14, .iload_n 1, 1, [], 0) :: (15, .ifCond .ne 13, 3, [28], 0) :: (18, .aload_n 0, 1, [], 0) :: (19, .getfield 35, 3, [12, 12, 6207, 0], 0) :: (22, .iload_n 2, 1, [], 0) :: (23, .iload_n 3, 1, [], 0) :: (24, .iastore, 1, [], 0) :: (25, .goto 10, 3, [35], 0) :: c280_28
def c280_0 : List JE := (0, .iload_n 1, 1, [], 0) :: (1, .ifCond .ge 13, 3, [14], 0) :: (4, .aload_n 0, 1, [], 0) :: (5, .getfield 18, 3, [12, 4, 6199, 0], 0) :: (8, .iload_n 2, 1, [], 0) :: (9, .iload_n 3, 1, [], 0) :: (10, .iastore, 1, [], 0) :: (11, .goto 24, 3, [35], 0) :: c280_14
/-! 281 SueOrSettleModel.change(IIII)I -/
def c281_124 : List JE := (124, .aload_n 0, 1, [], 0) :: (125, .iload 5, 2, [], 0) :: (127, .iload 6, 2, [], 0) :: (129, .iload 4, 2, [], 0) :: (131, .invokevirtual 279, 3, [5, 3, 280, 12, 8071, 8073, 83, 1008], 0) :: (134, .iload 7, 2, [], 0) :: (136, .ireturn, 1, [], 0) :: []
def c281_103 : List JE := (103, .istore 7, 2, [], 0) :: (105, .iload 7, 2, [], 0) :: (107, .iload 4, 2, [], 0) :: (109, .if_icmp .eq 15, 3, [124], 0) :: (112, .aload_n 0, 1, [], 0) :: (113, .iload 5, 2, [], 0) :: (115, .iload 6, 2, [], 0) :: (117, .iload 7, 2, [], 0) :: (119, .iload 4, 2, [], 0) :: (121, .invokevirtual 169, 3, [5, 4, 279, 12, 7181, 7183, 60, 1008], 0) :: c281_124
def c281_96 : List JE := (96, .aload_n 0, 1, [], 0) :: (97, .getfield 41, 3, [12, 14, 6209, 0], 0) :: (100, .iload 6, 2, [], 0) :: (102, .iaload, 1, [], 0) :: c281_103
def c281_80 : List JE := (80, .istore 6, 2, [], 0) :: (82, .iload_n 3, 1, [], 0) :: (83, .ifCond .ge 13, 3, [96], 0) :: (86, .aload_n 0, 1, [], 0) :: (87, .getfield 35, 3, [12, 12, 6207, 0], 0) :: (90, .iload 6, 2, [], 0) :: (92, .iaload, 1, [], 0) :: (93, .goto 10, 3, [103], 0) :: c281_96
def c281_70 : List JE := (70, .iconst 4, 1, [], 0) :: (71, .bipush 100, 2, [], 0) :: (73, .iload_n 1, 1, [], 0) :: (74, .imul, 1, [], 0) :: (75, .iload_n 2, 1, [], 0) :: (76, .iadd, 1, [], 0) :: (77, .imul, 1, [], 0) :: (78, .iload_n 3, 1, [], 0) :: (79, .iadd, 1, [], 0) :: c281_80
def c281_55 : List JE := (55, .istore 5, 2, [], 0) :: (57, .iload_n 3, 1, [], 0) :: (58, .ifCond .ge 12, 3, [70], 0) :: (61, .bipush 100, 2, [], 0) :: (63, .iload_n 1, 1, [], 0) :: (64, .imul, 1, [], 0) :: (65, .iload_n 2, 1, [], 0) :: (66, .iadd, 1, [], 0) :: (67, .goto 13, 3, [80], 0) :: c281_70
def c281_54 : List JE := (54, .iconst 1, 1, [], 0) :: c281_55
def c281_46 : List JE := (46, .iload_n 3, 1, [], 0) :: (47, .ifCond .ge 7, 3, [54], 0) :: (50, .iconst 0, 1, [], 0) :: (51, .goto 4, 3, [55], 0) :: c281_54
def c281_42 : List JE := (42, .ldc_w 266, 3, [8050], (-2000000000)) :: (45, .ireturn, 1, [], 0) :: c281_46
def c281_31 : List JE := (31, .iload 4, 2, [], 0) :: (33, .iconst 0, 1, [], 0) :: (34, .bipush 99, 2, [], 0) :: (36, .invokestatic 145, 3, [0, 3, 242, 7158, 7159, 1008], 0) :: (39, .ifCond .ne 7, 3, [46], 0) :: c281_42
def c281_0 : List JE := (0, .aload_n 0, 1, [], 0) :: (1, .iload_n 1, 1, [], 0) :: (2, .iload_n 2, 1, [], 0) :: (3, .iload_n 3, 1, [], 0) :: (4, .invokevirtual 276, 3, [5, 3, 278, 12, 8063, 8065, 81, 1008], 0) :: (7, .ifCond .eq 35, 3, [42], 0) :: (10, .iload_n 3, 1, [], 0) :: (11, .ifCond .ge 20, 3, [31], 0) :: (14, .iload 4, 2, [], 0) :: (16, .sipush (-999), 3, [], 0) :: (19, .sipush 999, 3, [], 0) :: (22, .invokestatic 145, 3, [0, 3, 242, 7158, 7159, 1008], 0) :: (25, .ifCond .ne 21, 3, [46], 0) :: (28, .goto 14, 3, [42], 0) :: c281_31
/-! 282 SueOrSettleModel.undo()I -/
def c282_10 : List JE := (10, .aload_n 0, 1, [], 0) :: (11, .dup, 1, [], 0) :: (12, .getfield 156, 3, [12, 22, 6217, 0], 0) :: (15, .iconst 1, 1, [], 0) :: (16, .isub, 1, [], 0) :: (17, .putfield 156, 3, [12, 22, 6217, 0], 0) :: (20, .aload_n 0, 1, [], 0) :: (21, .dup, 1, [], 0) :: (22, .getfield 159, 3, [12, 23, 6218, 0], 0) :: (25, .iconst 1, 1, [], 0) :: (26, .iadd, 1, [], 0) :: (27, .putfield 159, 3, [12, 23, 6218, 0], 0) :: (30, .aload_n 0, 1, [], 0) :: (31, .aload_n 0, 1, [], 0) :: (32, .getfield 53, 3, [12, 24, 6219, 0], 0) :: (35, .aload_n 0, 1, [], 0) :: (36, .getfield 156, 3, [12, 22, 6217, 0], 0) :: (39, .iaload, 1, [], 0) :: (40, .aload_n 0, 1, [], 0) :: (41, .getfield 56, 3, [12, 25, 6220, 0], 0) :: (44, .aload_n 0, 1, [], 0) :: (45, .getfield 156, 3, [12, 22, 6217, 0], 0) :: (48, .iaload, 1, [], 0) :: (49, .aload_n 0, 1, [], 0) :: (50, .getfield 59, 3, [12, 26, 6221, 0], 0) :: (53, .aload_n 0, 1, [], 0) :: (54, .getfield 156, 3, [12, 22, 6217, 0], 0) :: (57, .iaload, 1, [], 0) :: (58, .invokevirtual 279, 3, [5, 3, 280, 12, 8071, 8073, 83, 1008], 0) :: (61, .aload_n 0, 1, [], 0) :: (62, .getfield 156, 3, [12, 22, 6217, 0], 0) :: (65, .ireturn, 1, [], 0) :: []
def c282_0 : List JE := (0, .aload_n 0, 1, [], 0) :: (1, .getfield 156, 3, [12, 22, 6217, 0], 0) :: (4, .ifCond .ne 6, 3, [10], 0) :: (7, .bipush (-5), 2, [], 0) :: (9, .ireturn, 1, [], 0) :: c282_10
/-! 283 SueOrSettleModel.redo()I -/
def c283_10 : List JE := (10, .aload_n 0, 1, [], 0) :: (11, .aload_n 0, 1, [], 0) :: (12, .getfield 53, 3, [12, 24, 6219, 0], 0) :: (15, .aload_n 0, 1, [], 0) :: (16, .getfield 156, 3, [12, 22, 6217, 0], 0) :: (19, .iaload, 1, [], 0) :: (20, .aload_n 0, 1, [], 0) :: (21, .getfield 56, 3, [12, 25, 6220, 0], 0) :: (24, .aload_n 0, 1, [], 0) :: (25, .getfield 156, 3, [12, 22, 6217, 0], 0) :: (28, .iaload, 1, [], 0) :: (29, .aload_n 0, 1, [], 0) :: (30, .getfield 62, 3, [12, 27, 6222, 0], 0) :: (33, .aload_n 0, 1, [], 0) :: (34, .getfield 156, 3, [12, 22, 6217, 0], 0) :: (37, .iaload, 1, [], 0) :: (38, .invokevirtual 279, 3, [5, 3, 280, 12, 8071, 8073, 83, 1008], 0) :: (41, .aload_n 0, 1, [], 0) :: (42, .dup, 1, [], 0) :: (43, .getfield 156, 3, [12, 22, 6217, 0], 0) :: (46, .iconst 1, 1, [], 0) :: (47, .iadd, 1, [], 0) :: (48, .putfield 156, 3, [12, 22, 6217, 0], 0) :: (51, .aload_n 0, 1, [], 0) :: (52, .dup, 1, [], 0) :: (53, .getfield 159, 3, [12, 23, 6218, 0], 0) :: (56, .iconst 1, 1, [], 0) :: (57, .isub, 1, [], 0) :: (58, .putfield 159, 3, [12, 23, 6218, 0], 0) :: (61, .aload_n 0, 1, [], 0) :: (62, .getfield 159, 3, [12, 23, 6218, 0], 0) :: (65, .ireturn, 1, [], 0) :: []
def c283_0 : List JE := (0, .aload_n 0, 1, [], 0) :: (1, .getfield 159, 3, [12, 23, 6218, 0], 0) :: (4, .ifCond .ne 6, 3, [10], 0) :: (7, .bipush (-5), 2, [], 0) :: (9, .ireturn, 1, [], 0) :: c283_10
/-! 284 SueOrSettleModel.isFeeling(I)Z -/
def c284_0 : List JE := (0, .iload_n 1, 1, [], 0) :: (1, .iconst 0, 1, [], 0) :: (2, .aload_n 0, 1, [], 0) :: (3, .getfield 282, 3, [12, 28, 6223, 0], 0) :: (6, .iconst 1, 1, [], 0) :: (7, .isub, 1, [], 0) :: (8, .invokestatic 145, 3, [0, 3, 242, 7158, 7159, 1008], 0) :: (11, .ireturn, 1, [1], 0) :: []
/-! 285 SueOrSettleModel.feeling(II)I -/
def c285_66 : List JE := (66, .iastore, 1, [], 0) :: (67, .aload_n 0, 1, [], 0) :: (68, .dup, 1, [], 0) :: (69, .getfield 282, 3, [12, 28, 6223, 0], 0) :: (72, .iconst 1, 1, [], 0) :: (73, .iadd, 1, [], 0) :: (74, .putfield 282, 3, [12, 28, 6223, 0], 0) :: (77, .aload_n 0, 1, [], 0) :: (78, .getfield 282, 3, [12, 28, 6223, 0], 0) :: (81, .iconst 1, 1, [], 0) :: (82, .isub, 1, [], 0) :: (83, .ireturn, 1, [], 0) :: []
def c285_65 : List JE := (65, .iconst 0, 1, [], 0) :: c285_66
def c285_38 : List JE := (38, .aload_n 0, 1, [], 0) :: (39, .getfield 65, 3, [12, 29, 6224, 0], 0) :: (42, .aload_n 0, 1, [], 0) :: (43, .getfield 282, 3, [12, 28, 6223, 0], 0) :: (46, .iload_n 1, 1, [], 0) :: (47, .iastore, 1, [], 0) :: (48, .aload_n 0, 1, [], 0) :: (49, .getfield 68, 3, [12, 30, 6225, 0], 0) :: (52, .aload_n 0, 1, [], 0) :: (53, .getfield 282, 3, [12, 28, 6223, 0], 0) :: (56, .iload_n 1, 1, [], 0) :: (57, .iconst 4, 1, [], 0) :: (58, .if_icmp .lt 7, 3, [65], 0) :: (61, .iload_n 2, 1, [], 0) :: (62, .goto 4, 3, [66], 0) :: c285_65
def c285_26 : List JE := (26, .aload_n 0, 1, [], 0) :: (27, .getfield 282, 3, [12, 28, 6223, 0], 0) :: (30, .bipush 20, 2, [], 0) :: (32, .if_icmp .ne 6, 3, [38], 0) :: (35, .bipush (-3), 2, [], 0) :: (37, .ireturn, 1, [], 0) :: c285_38
def c285_24 : List JE := (24, .iconst (-1), 1, [], 0) :: (25, .ireturn, 1, [], 0) :: c285_26
def c285_0 : List JE := (0, .iload_n 1, 1, [], 0) :: (1, .iconst 0, 1, [], 0) :: (2, .iconst 5, 1, [], 0) :: (3, .invokestatic 145, 3, [0, 3, 242, 7158, 7159, 1008], 0) :: (6, .ifCond .eq 18, 3, [24], 0) :: (9, .iload_n 1, 1, [], 0) :: (10, .iconst 4, 1, [], 0) :: (11, .if_icmp .lt 15, 3, [26], 0) :: (14, .iload_n 2, 1, [], 0) :: (15, .iconst 0, 1, [], 0) :: (16, .bipush 100, 2, [], 0) :: (18, .invokestatic 145, 3, [0, 3, 242, 7158, 7159, 1008], 0) :: (21, .ifCond .ne 5, 3, [26], 0) :: c285_24
/-! 286 SueOrSettleModel.step(II)I -/
def c286_37 : List JE := (37, .aload_n 0, 1, [], 0) :: (38, .getfield 71, 3, [12, 32, 6227, 0], 0) :: (41, .aload_n 0, 1, [], 0) :: (42, .getfield 285, 3, [12, 31, 6226, 0], 0) :: (45, .iload_n 1, 1, [], 0) :: (46, .iastore, 1, [], 0) :: (47, .aload_n 0, 1, [], 0) :: (48, .getfield 74, 3, [12, 33, 6228, 0], 0) :: (51, .aload_n 0, 1, [], 0) :: (52, .getfield 285, 3, [12, 31, 6226, 0], 0) :: (55, .iload_n 2, 1, [], 0) :: (56, .iastore, 1, [], 0) :: (57, .aload_n 0, 1, [], 0) :: (58, .dup, 1, [], 0) :: (59, .getfield 285, 3, [12, 31, 6226, 0], 0) :: (62, .iconst 1, 1, [], 0) :: (63, .iadd, 1, [], 0) :: (64, .putfield 285, 3, [12, 31, 6226, 0], 0) :: (67, .aload_n 0, 1, [], 0) :: (68, .getfield 285, 3, [12, 31, 6226, 0], 0) :: (71, .ireturn, 1, [], 0) :: []
def c286_25 : List JE := (25, .aload_n 0, 1, [], 0) :: (26, .getfield 285, 3, [12, 31, 6226, 0], 0) :: (29, .bipush 6, 2, [], 0) :: (31, .if_icmp .ne 6, 3, [37], 0) :: (34, .bipush (-3), 2, [], 0) :: (36, .ireturn, 1, [], 0) :: c286_37
def c286_23 : List JE := (23, .iconst (-1), 1, [], 0) :: (24, .ireturn, 1, [], 0) :: c286_25
def c286_0 : List JE := (0, .iload_n 1, 1, [], 0) :: (1, .sipush (-9999), 3, [], 0) :: (4, .sipush 9999, 3, [], 0) :: (7, .invokestatic 145, 3, [0, 3, 242, 7158, 7159, 1008], 0) :: (10, .ifCond .eq 13, 3, [23], 0) :: (13, .iload_n 2, 1, [], 0) :: (14, .iconst 0, 1, [], 0) :: (15, .bipush 9, 2, [], 0) :: (17, .invokestatic 145, 3, [0, 3, 242, 7158, 7159, 1008], 0) :: (20, .ifCond .ne 5, 3, [25], 0) :: c286_23
/-! 287 SueOrSettleModel.coinBy(I)I -/
def c287_67 : List JE := (67, .ireturn, 1, [], 0) :: []
def c287_58 : List JE := (58, .bipush 10, 2, [], 0) :: (60, .aload_n 0, 1, [], 0) :: (61, .getfield 74, 3, [12, 33, 6228, 0], 0) :: (64, .iload_n 2, 1, [], 0) :: (65, .iaload, 1, [], 0) :: (66, .imul, 1, [], 0) :: c287_67
def c287_49 : List JE := (49, .iload_n 2, 1, [], 0) :: (50, .ifCond .ge 8, 3, [58], 0) :: (53, .bipush 100, 2, [], 0) :: (55, .goto 12, 3, [67], 0) :: c287_58
def c287_43 : List JE := (43, .iinc 3 1, 3, [], 0) :: (46, .goto (-42), 3, [4], 0) :: c287_49
def c287_41 : List JE := (41, .iload_n 3, 1, [], 0) :: (42, .istore_n 2, 1, [], 0) :: c287_43
def c287_4 : List JE := (4, .iload_n 3, 1, [], 0) :: (5, .aload_n 0, 1, [], 0) :: (6, .getfield 285, 3, [12, 31, 6226, 0], 0) :: (9, .if_icmp .ge 40, 3, [49], 0) :: (12, .aload_n 0, 1, [], 0) :: (13, .getfield 71, 3, [12, 32, 6227, 0], 0) :: (16, .iload_n 3, 1, [], 0) :: (17, .iaload, 1, [], 0) :: (18, .iload_n 1, 1, [], 0) :: (19, .if_icmp .gt 24, 3, [43], 0) :: (22, .iload_n 2, 1, [], 0) :: (23, .ifCond .lt 18, 3, [41], 0) :: (26, .aload_n 0, 1, [], 0) :: (27, .getfield 71, 3, [12, 32, 6227, 0], 0) :: (30, .iload_n 3, 1, [], 0) :: (31, .iaload, 1, [], 0) :: (32, .aload_n 0, 1, [], 0) :: (33, .getfield 71, 3, [12, 32, 6227, 0], 0) :: (36, .iload_n 2, 1, [], 0) :: (37, .iaload, 1, [], 0) :: (38, .if_icmp .lt 5, 3, [43], 0) :: c287_41
def c287_0 : List JE := (0, .iconst (-1), 1, [], 0) :: (1, .istore_n 2, 1, [], 0) :: (2, .iconst 0, 1, [], 0) :: (3, .istore_n 3, 1, [], 0) :: c287_4
/-! 288 SueOrSettleModel.feltOf(I)I -/
def c288_44 : List JE := (44, .iload_n 2, 1, [], 0) :: (45, .ireturn, 1, [], 0) :: []
def c288_25 : List JE := (25, .iload_n 3, 1, [], 0) :: (26, .iload_n 1, 1, [], 0) :: (27, .if_icmp .le 17, 3, [44], 0) :: (30, .iload_n 2, 1, [], 0) :: (31, .aload_n 0, 1, [], 0) :: (32, .iload_n 3, 1, [], 0) :: (33, .invokevirtual 288, 3, [5, 1, 287, 12, 8107, 8109, 87, 1008], 0) :: (36, .isub, 1, [], 0) :: (37, .istore_n 2, 1, [], 0) :: (38, .iinc 3 (-1), 3, [], 0) :: (41, .goto (-16), 3, [25], 0) :: c288_44
def c288_23 : List JE := (23, .iconst 0, 1, [], 0) :: (24, .istore_n 3, 1, [], 0) :: c288_25
def c288_4 : List JE := (4, .iload_n 3, 1, [], 0) :: (5, .iload_n 1, 1, [], 0) :: (6, .if_icmp .gt 17, 3, [23], 0) :: (9, .iload_n 2, 1, [], 0) :: (10, .aload_n 0, 1, [], 0) :: (11, .iload_n 3, 1, [], 0) :: (12, .invokevirtual 288, 3, [5, 1, 287, 12, 8107, 8109, 87, 1008], 0) :: (15, .iadd, 1, [], 0) :: (16, .istore_n 2, 1, [], 0) :: (17, .iinc 3 1, 3, [], 0) :: (20, .goto (-16), 3, [4], 0) :: c288_23
def c288_0 : List JE := (0, .iconst 0, 1, [], 0) :: (1, .istore_n 2, 1, [], 0) :: (2, .iconst 1, 1, [], 0) :: (3, .istore_n 3, 1, [], 0) :: c288_4
/-! 289 SueOrSettleModel.countsBy(III)I -/
def c289_40 : List JE := (40, .ireturn, 1, [], 0) :: []
def c289_37 : List JE := (37, .iload_n 2, 1, [], 0) :: (38, .iload_n 3, 1, [], 0) :: (39, .imul, 1, [], 0) :: c289_40
def c289_30 : List JE := (30, .bipush 100, 2, [], 0) :: (32, .iload_n 3, 1, [], 0) :: (33, .imul, 1, [], 0) :: (34, .goto 6, 3, [40], 0) :: c289_37
def c289_16 : List JE := (16, .iload_n 1, 1, [], 0) :: (17, .iconst 4, 1, [], 0) :: (18, .if_icmp .lt 12, 3, [30], 0) :: (21, .iload_n 1, 1, [], 0) :: (22, .iconst 5, 1, [], 0) :: (23, .if_icmp .ne 14, 3, [37], 0) :: (26, .iload_n 3, 1, [], 0) :: (27, .ifCond .ge 10, 3, [37], 0) :: c289_30
def c289_10 : List JE := (10, .aload_n 0, 1, [], 0) :: (11, .iload_n 3, 1, [], 0) :: (12, .invokevirtual 291, 3, [5, 1, 288, 12, 8103, 8105, 86, 1008], 0) :: (15, .ireturn, 1, [], 0) :: c289_16
def c289_0 : List JE := (0, .iload_n 1, 1, [], 0) :: (1, .iconst 1, 1, [], 0) :: (2, .if_icmp .eq 8, 3, [10], 0) :: (5, .iload_n 1, 1, [], 0) :: (6, .iconst 3, 1, [], 0) :: (7, .if_icmp .ne 9, 3, [16], 0) :: c289_10
/-! 290 SueOrSettleModel.counts(II)I -/
def c290_44 : List JE := (44, .ireturn, 1, [], 0) :: []
def c290_41 : List JE := (41, .ldc_w 266, 3, [8050], (-2000000000)) :: c290_44
def c290_0 : List JE := (0, .aload_n 0, 1, [], 0) :: (1, .iload_n 1, 1, [], 0) :: (2, .invokevirtual 294, 3, [5, 1, 284, 12, 8095, 8097, 84, 1008], 0) :: (5, .ifCond .eq 36, 3, [41], 0) :: (8, .iload_n 2, 1, [], 0) :: (9, .sipush (-9999), 3, [], 0) :: (12, .sipush 9999, 3, [], 0) :: (15, .invokestatic 145, 3, [0, 3, 242, 7158, 7159, 1008], 0) :: (18, .ifCond .eq 23, 3, [41], 0) :: (21, .aload_n 0, 1, [], 0) :: (22, .aload_n 0, 1, [], 0) :: (23, .getfield 65, 3, [12, 29, 6224, 0], 0) :: (26, .iload_n 1, 1, [], 0) :: (27, .iaload, 1, [], 0) :: (28, .aload_n 0, 1, [], 0) :: (29, .getfield 68, 3, [12, 30, 6225, 0], 0) :: (32, .iload_n 1, 1, [], 0) :: (33, .iaload, 1, [], 0) :: (34, .iload_n 2, 1, [], 0) :: (35, .invokevirtual 297, 3, [5, 3, 289, 12, 8099, 8101, 85, 1008], 0) :: (38, .goto 6, 3, [44], 0) :: c290_41
/-! 291 SueOrSettleModel.begin(IIIZ)V -/
def c291_44 : List JE := (44, .return_, 1, [], 0) :: []
def c291_24 : List JE := (24, .iload 5, 2, [], 0) :: (26, .iconst 4, 1, [], 0) :: (27, .if_icmp .ge 17, 3, [44], 0) :: (30, .aload_n 0, 1, [], 0) :: (31, .getfield 77, 3, [12, 34, 6229, 0], 0) :: (34, .iload 5, 2, [], 0) :: (36, .iconst (-1), 1, [], 0) :: (37, .iastore, 1, [], 0) :: (38, .iinc 5 1, 3, [], 0) :: (41, .goto (-17), 3, [24], 0) :: c291_44
def c291_0 : List JE := (0, .aload_n 0, 1, [], 0) :: (1, .iload_n 1, 1, [], 0) :: (2, .putfield 301, 3, [12, 36, 6231, 0], 0) :: (5, .aload_n 0, 1, [], 0) :: (6, .iload_n 2, 1, [], 0) :: (7, .putfield 304, 3, [12, 37, 6232, 0], 0) :: (10, .aload_n 0, 1, [], 0) :: (11, .iload_n 3, 1, [], 0) :: (12, .putfield 307, 3, [12, 38, 6233, 0], 0) :: (15, .aload_n 0, 1, [], 0) :: (16, .iload 4, 2, [], 0) :: (18, .putfield 310, 3, [12, 39, 6234, 0], 0) :: (21, .iconst 0, 1, [], 0) :: (22, .istore 5, 2, [], 0) :: c291_24
/-! 292 SueOrSettleModel.isKnown(I)Z -/
def c292_46 : List JE := (46, .iconst 1, 1, [], 0) :: (47, .ireturn, 1, [1], 0) :: []
def c292_40 : List JE := (40, .iinc 2 1, 3, [], 0) :: (43, .goto (-41), 3, [2], 0) :: c292_46
def c292_2 : List JE := (2, .iload_n 2, 1, [], 0) :: (3, .aload_n 0, 1, [], 0) :: (4, .getfield 142, 3, [12, 1, 6196, 0], 0) :: (7, .if_icmp .ge 39, 3, [46], 0) :: (10, .aload_n 0, 1, [], 0) :: (11, .getfield 77, 3, [12, 34, 6229, 0], 0) :: (14, .iload_n 2, 1, [], 0) :: (15, .iaload, 1, [], 0) :: (16, .ifCond .lt 24, 3, [40], 0) :: (19, .aload_n 0, 1, [], 0) :: (20, .getfield 21, 3, [12, 6, 6201, 0], 0) :: (23, .iconst 4, 1, [], 0) :: (24, .iload_n 1, 1, [], 0) :: (25, .imul, 1, [], 0) :: (26, .iload_n 2, 1, [], 0) :: (27, .iadd, 1, [], 0) :: (28, .iaload, 1, [], 0) :: (29, .aload_n 0, 1, [], 0) :: (30, .getfield 77, 3, [12, 34, 6229, 0], 0) :: (33, .iload_n 2, 1, [], 0) :: (34, .iaload, 1, [], 0) :: (35, .if_icmp .eq 5, 3, [40], 0) :: (38, .iconst 0, 1, [], 0) :: (39, .ireturn, 1, [1], 0) :: c292_40
def c292_0 : List JE := (0, .iconst 0, 1, [], 0) :: (1, .istore_n 2, 1, [], 0) :: c292_2
/-! 293 SueOrSettleModel.knownNumber()J -/
def c293_35 : List JE := (35, .lload_n 1, 1, [], 0) :: (36, .lreturn, 1, [], 0) :: []
def c293_29 : List JE := (29, .iinc 3 1, 3, [], 0) :: (32, .goto (-28), 3, [4], 0) :: c293_35
def c293_4 : List JE := (4, .iload_n 3, 1, [], 0) :: (5, .aload_n 0, 1, [], 0) :: (6, .getfield 193, 3, [12, 5, 6200, 0], 0) :: (9, .if_icmp .ge 26, 3, [35], 0) :: (12, .aload_n 0, 1, [], 0) :: (13, .iload_n 3, 1, [], 0) :: (14, .invokevirtual 314, 3, [5, 1, 292, 12, 8132, 8134, 92, 1008], 0) :: (17, .ifCond .eq 12, 3, [29], 0) :: (20, .lload_n 1, 1, [], 0) :: (21, .aload_n 0, 1, [], 0) :: (22, .getfield 24, 3, [12, 7, 6202, 0], 0) :: (25, .iload_n 3, 1, [], 0) :: (26, .laload, 1, [], 0) :: (27, .ladd, 1, [], 0) :: (28, .lstore_n 1, 1, [], 0) :: c293_29
def c293_0 : List JE := (0, .lconst 0, 1, [], 0) :: (1, .lstore_n 1, 1, [], 0) :: (2, .iconst 0, 1, [], 0) :: (3, .istore_n 3, 1, [], 0) :: c293_4
/-! 294 SueOrSettleModel.worthOf(II)J -/
def c294_207 : List JE := (207, .lload 4, 2, [], 0) :: (209, .lreturn, 1, [], 0) :: []
def c294_201 : List JE := (201, .iinc 6 1, 3, [], 0) :: (204, .goto (-73), 3, [131], 0) :: c294_207
def c294_188 : List JE := (188, .lload 7, 2, [], 0) :: (190, .lstore 4, 2, [], 0) :: (192, .aload_n 0, 1, [], 0) :: (193, .getfield 80, 3, [12, 35, 6230, 0], 0) :: (196, .iload_n 1, 1, [], 0) :: (197, .iload 6, 2, [], 0) :: (199, .i2b, 1, [], 0) :: (200, .bastore, 1, [22], 0) :: c294_201
def c294_131 : List JE := (131, .iload 6, 2, [], 0) :: (133, .aload_n 0, 1, [], 0) :: (134, .getfield 35, 3, [12, 12, 6207, 0], 0) :: (137, .iload_n 3, 1, [], 0) :: (138, .iaload, 1, [], 0) :: (139, .if_icmp .ge 68, 3, [207], 0) :: (142, .aload_n 0, 1, [], 0) :: (143, .aload_n 0, 1, [], 0) :: (144, .getfield 38, 3, [12, 13, 6208, 0], 0) :: (147, .iconst 4, 1, [], 0) :: (148, .iload_n 3, 1, [], 0) :: (149, .imul, 1, [], 0) :: (150, .iload 6, 2, [], 0) :: (152, .iadd, 1, [], 0) :: (153, .baload, 1, [22], 0) :: (154, .iload_n 2, 1, [], 0) :: (155, .aload_n 0, 1, [], 0) :: (156, .getfield 41, 3, [12, 14, 6209, 0], 0) :: (159, .iconst 4, 1, [], 0) :: (160, .iload_n 3, 1, [], 0) :: (161, .imul, 1, [], 0) :: (162, .iload 6, 2, [], 0) :: (164, .iadd, 1, [], 0) :: (165, .iaload, 1, [], 0) :: (166, .iadd, 1, [], 0) :: (167, .invokevirtual 324, 3, [5, 2, 294, 12, 8124, 8126, 90, 1008], 0) :: (170, .lstore 7, 2, [], 0) :: (172, .iload 6, 2, [], 0) :: (174, .ifCond .le 14, 3, [188], 0) :: (177, .lload 7, 2, [], 0) :: (179, .lload 4, 2, [], 0) :: (181, .lcmp, 1, [], 0) :: (182, .ifCond .gt 6, 3, [188], 0) :: (185, .goto 16, 3, [201], 0) :: c294_188
def c294_125 : List JE := (125, .lconst 0, 1, [], 0) :: (126, .lstore 4, 2, [], 0) :: (128, .iconst 0, 1, [], 0) :: (129, .istore 6, 2, [], 0) :: c294_131
def c294_81 : List JE := (81, .aload_n 0, 1, [], 0) :: (82, .getfield 310, 3, [12, 39, 6234, 0], 0) :: (85, .ifCond .eq 40, 3, [125], 0) :: (88, .aload_n 0, 1, [], 0) :: (89, .aload_n 0, 1, [], 0) :: (90, .getfield 38, 3, [12, 13, 6208, 0], 0) :: (93, .iconst 4, 1, [], 0) :: (94, .iload_n 3, 1, [], 0) :: (95, .imul, 1, [], 0) :: (96, .aload_n 0, 1, [], 0) :: (97, .getfield 44, 3, [12, 15, 6210, 0], 0) :: (100, .iload_n 3, 1, [], 0) :: (101, .baload, 1, [22], 0) :: (102, .iadd, 1, [], 0) :: (103, .baload, 1, [22], 0) :: (104, .iload_n 2, 1, [], 0) :: (105, .aload_n 0, 1, [], 0) :: (106, .getfield 41, 3, [12, 14, 6209, 0], 0) :: (109, .iconst 4, 1, [], 0) :: (110, .iload_n 3, 1, [], 0) :: (111, .imul, 1, [], 0) :: (112, .aload_n 0, 1, [], 0) :: (113, .getfield 44, 3, [12, 15, 6210, 0], 0) :: (116, .iload_n 3, 1, [], 0) :: (117, .baload, 1, [22], 0) :: (118, .iadd, 1, [], 0) :: (119, .iaload, 1, [], 0) :: (120, .iadd, 1, [], 0) :: (121, .invokevirtual 324, 3, [5, 2, 294, 12, 8124, 8126, 90, 1008], 0) :: (124, .lreturn, 1, [], 0) :: c294_125
def c294_64 : List JE := (64, .aload_n 0, 1, [], 0) :: (65, .getfield 31, 3, [12, 11, 6206, 0], 0) :: (68, .iload_n 3, 1, [], 0) :: (69, .baload, 1, [22], 0) :: (70, .iconst 2, 1, [], 0) :: (71, .if_icmp .ne 10, 3, [81], 0) :: (74, .aload_n 0, 1, [], 0) :: (75, .iload_n 3, 1, [], 0) :: (76, .iload_n 2, 1, [], 0) :: (77, .invokevirtual 320, 3, [5, 2, 295, 12, 8136, 8138, 93, 1008], 0) :: (80, .lreturn, 1, [], 0) :: c294_81
def c294_63 : List JE := (63, .lreturn, 1, [], 0) :: c294_64
def c294_55 : List JE := (55, .aload_n 0, 1, [], 0) :: (56, .invokevirtual 317, 3, [5, 0, 293, 12, 8128, 8130, 91, 1008], 0) :: (59, .iload 4, 2, [], 0) :: (61, .i2l, 1, [], 0) :: (62, .lmul, 1, [], 0) :: c294_63
def c294_0 : List JE := (0, .bipush 100, 2, [], 0) :: (2, .aload_n 0, 1, [], 0) :: (3, .getfield 301, 3, [12, 36, 6231, 0], 0) :: (6, .imul, 1, [], 0) :: (7, .iload_n 1, 1, [], 0) :: (8, .iadd, 1, [], 0) :: (9, .istore_n 3, 1, [], 0) :: (10, .aload_n 0, 1, [], 0) :: (11, .getfield 31, 3, [12, 11, 6206, 0], 0) :: (14, .iload_n 3, 1, [], 0) :: (15, .baload, 1, [22], 0) :: (16, .ifCond .ne 48, 3, [64], 0) :: (19, .aload_n 0, 1, [], 0) :: (20, .aload_n 0, 1, [], 0) :: (21, .getfield 304, 3, [12, 37, 6232, 0], 0) :: (24, .aload_n 0, 1, [], 0) :: (25, .getfield 307, 3, [12, 38, 6233, 0], 0) :: (28, .aload_n 0, 1, [], 0) :: (29, .getfield 35, 3, [12, 12, 6207, 0], 0) :: (32, .iload_n 3, 1, [], 0) :: (33, .iaload, 1, [], 0) :: (34, .iload_n 2, 1, [], 0) :: (35, .isub, 1, [], 0) :: (36, .invokevirtual 297, 3, [5, 3, 289, 12, 8099, 8101, 85, 1008], 0) :: (39, .istore 4, 2, [], 0) :: (41, .aload_n 0, 1, [], 0) :: (42, .getfield 304, 3, [12, 37, 6232, 0], 0) :: (45, .iconst 2, 1, [], 0) :: (46, .if_icmp .ne 9, 3, [55], 0) :: (49, .iload 4, 2, [], 0) :: (51, .i2l, 1, [], 0) :: (52, .goto 11, 3, [63], 0) :: c294_55
/-! 295 SueOrSettleModel.turnsWorth(II)J -/
def c295_123 : List JE := (123, .aload_n 0, 1, [], 0) :: (124, .getfield 77, 3, [12, 34, 6229, 0], 0) :: (127, .iload_n 3, 1, [], 0) :: (128, .iload 4, 2, [], 0) :: (130, .iastore, 1, [], 0) :: (131, .lload 5, 2, [], 0) :: (133, .lreturn, 1, [], 0) :: []
def c295_117 : List JE := (117, .iinc 8 1, 3, [], 0) :: (120, .goto (-96), 3, [24], 0) :: c295_123
def c295_112 : List JE := (112, .lstore 5, 2, [], 0) :: (114, .iconst 1, 1, [], 0) :: (115, .istore 7, 2, [], 0) :: c295_117
def c295_110 : List JE := (110, .lload 9, 2, [], 0) :: c295_112
def c295_92 : List JE := (92, .iload 7, 2, [], 0) :: (94, .ifCond .eq 16, 3, [110], 0) :: (97, .lload 5, 2, [], 0) :: (99, .lload 9, 2, [], 0) :: (101, .lcmp, 1, [], 0) :: (102, .ifCond .ge 8, 3, [110], 0) :: (105, .lload 5, 2, [], 0) :: (107, .goto 5, 3, [112], 0) :: c295_110
def c295_50 : List JE := (50, .aload_n 0, 1, [], 0) :: (51, .getfield 77, 3, [12, 34, 6229, 0], 0) :: (54, .iload_n 3, 1, [], 0) :: (55, .iload 8, 2, [], 0) :: (57, .iastore, 1, [], 0) :: (58, .aload_n 0, 1, [], 0) :: (59, .aload_n 0, 1, [], 0) :: (60, .getfield 38, 3, [12, 13, 6208, 0], 0) :: (63, .iconst 4, 1, [], 0) :: (64, .iload_n 1, 1, [], 0) :: (65, .imul, 1, [], 0) :: (66, .iload 8, 2, [], 0) :: (68, .iadd, 1, [], 0) :: (69, .baload, 1, [22], 0) :: (70, .iload_n 2, 1, [], 0) :: (71, .invokevirtual 324, 3, [5, 2, 294, 12, 8124, 8126, 90, 1008], 0) :: (74, .lstore 9, 2, [], 0) :: (76, .aload_n 0, 1, [], 0) :: (77, .getfield 304, 3, [12, 37, 6232, 0], 0) :: (80, .iconst 2, 1, [], 0) :: (81, .if_icmp .eq 11, 3, [92], 0) :: (84, .lload 5, 2, [], 0) :: (86, .lload 9, 2, [], 0) :: (88, .ladd, 1, [], 0) :: (89, .goto 23, 3, [112], 0) :: c295_92
def c295_24 : List JE := (24, .iload 8, 2, [], 0) :: (26, .aload_n 0, 1, [], 0) :: (27, .getfield 9, 3, [12, 2, 6197, 0], 0) :: (30, .iload_n 3, 1, [], 0) :: (31, .iaload, 1, [], 0) :: (32, .if_icmp .ge 91, 3, [123], 0) :: (35, .iload 4, 2, [], 0) :: (37, .ifCond .lt 13, 3, [50], 0) :: (40, .iload 4, 2, [], 0) :: (42, .iload 8, 2, [], 0) :: (44, .if_icmp .eq 6, 3, [50], 0) :: (47, .goto 70, 3, [117], 0) :: c295_50
def c295_0 : List JE := (0, .aload_n 0, 1, [], 0) :: (1, .getfield 35, 3, [12, 12, 6207, 0], 0) :: (4, .iload_n 1, 1, [], 0) :: (5, .iaload, 1, [], 0) :: (6, .istore_n 3, 1, [], 0) :: (7, .aload_n 0, 1, [], 0) :: (8, .getfield 77, 3, [12, 34, 6229, 0], 0) :: (11, .iload_n 3, 1, [], 0) :: (12, .iaload, 1, [], 0) :: (13, .istore 4, 2, [], 0) :: (15, .lconst 0, 1, [], 0) :: (16, .lstore 5, 2, [], 0) :: (18, .iconst 0, 1, [], 0) :: (19, .istore 7, 2, [], 0) :: (21, .iconst 0, 1, [], 0) :: (22, .istore 8, 2, [], 0) :: c295_24
/-! 296 SueOrSettleModel.valueIn(III)I -/
def c296_148 : List JE := (148, .iload 5, 2, [], 0) :: (150, .ireturn, 1, [], 0) :: []
def c296_142 : List JE := (142, .iinc 6 1, 3, [], 0) :: (145, .goto (-64), 3, [81], 0) :: c296_148
def c296_138 : List JE := (138, .iload 7, 2, [], 0) :: (140, .istore 5, 2, [], 0) :: c296_142
def c296_81 : List JE := (81, .iload 6, 2, [], 0) :: (83, .aload_n 0, 1, [], 0) :: (84, .getfield 35, 3, [12, 12, 6207, 0], 0) :: (87, .iload 4, 2, [], 0) :: (89, .iaload, 1, [], 0) :: (90, .if_icmp .ge 58, 3, [148], 0) :: (93, .aload_n 0, 1, [], 0) :: (94, .aload_n 0, 1, [], 0) :: (95, .getfield 38, 3, [12, 13, 6208, 0], 0) :: (98, .iconst 4, 1, [], 0) :: (99, .iload 4, 2, [], 0) :: (101, .imul, 1, [], 0) :: (102, .iload 6, 2, [], 0) :: (104, .iadd, 1, [], 0) :: (105, .baload, 1, [22], 0) :: (106, .iload_n 2, 1, [], 0) :: (107, .iload_n 3, 1, [], 0) :: (108, .aload_n 0, 1, [], 0) :: (109, .getfield 41, 3, [12, 14, 6209, 0], 0) :: (112, .iconst 4, 1, [], 0) :: (113, .iload 4, 2, [], 0) :: (115, .imul, 1, [], 0) :: (116, .iload 6, 2, [], 0) :: (118, .iadd, 1, [], 0) :: (119, .iaload, 1, [], 0) :: (120, .iadd, 1, [], 0) :: (121, .invokevirtual 327, 3, [5, 3, 296, 12, 8144, 8146, 95, 1008], 0) :: (124, .istore 7, 2, [], 0) :: (126, .iload 6, 2, [], 0) :: (128, .ifCond .eq 10, 3, [138], 0) :: (131, .iload 7, 2, [], 0) :: (133, .iload 5, 2, [], 0) :: (135, .if_icmp .le 7, 3, [142], 0) :: c296_138
def c296_75 : List JE := (75, .iconst 0, 1, [], 0) :: (76, .istore 5, 2, [], 0) :: (78, .iconst 0, 1, [], 0) :: (79, .istore 6, 2, [], 0) :: c296_81
def c296_31 : List JE := (31, .aload_n 0, 1, [], 0) :: (32, .getfield 31, 3, [12, 11, 6206, 0], 0) :: (35, .iload 4, 2, [], 0) :: (37, .baload, 1, [22], 0) :: (38, .iconst 2, 1, [], 0) :: (39, .if_icmp .ne 36, 3, [75], 0) :: (42, .aload_n 0, 1, [], 0) :: (43, .aload_n 0, 1, [], 0) :: (44, .getfield 38, 3, [12, 13, 6208, 0], 0) :: (47, .iconst 4, 1, [], 0) :: (48, .iload 4, 2, [], 0) :: (50, .imul, 1, [], 0) :: (51, .aload_n 0, 1, [], 0) :: (52, .getfield 21, 3, [12, 6, 6201, 0], 0) :: (55, .iconst 4, 1, [], 0) :: (56, .iload_n 2, 1, [], 0) :: (57, .imul, 1, [], 0) :: (58, .aload_n 0, 1, [], 0) :: (59, .getfield 35, 3, [12, 12, 6207, 0], 0) :: (62, .iload 4, 2, [], 0) :: (64, .iaload, 1, [], 0) :: (65, .iadd, 1, [], 0) :: (66, .iaload, 1, [], 0) :: (67, .iadd, 1, [], 0) :: (68, .baload, 1, [22], 0) :: (69, .iload_n 2, 1, [], 0) :: (70, .iload_n 3, 1, [], 0) :: (71, .invokevirtual 327, 3, [5, 3, 296, 12, 8144, 8146, 95, 1008], 0) :: (74, .ireturn, 1, [], 0) :: c296_75
def c296_0 : List JE := (0, .bipush 100, 2, [], 0) :: (2, .aload_n 0, 1, [], 0) :: (3, .getfield 301, 3, [12, 36, 6231, 0], 0) :: (6, .imul, 1, [], 0) :: (7, .iload_n 1, 1, [], 0) :: (8, .iadd, 1, [], 0) :: (9, .istore 4, 2, [], 0) :: (11, .aload_n 0, 1, [], 0) :: (12, .getfield 31, 3, [12, 11, 6206, 0], 0) :: (15, .iload 4, 2, [], 0) :: (17, .baload, 1, [22], 0) :: (18, .ifCond .ne 13, 3, [31], 0) :: (21, .aload_n 0, 1, [], 0) :: (22, .getfield 35, 3, [12, 12, 6207, 0], 0) :: (25, .iload 4, 2, [], 0) :: (27, .iaload, 1, [], 0) :: (28, .iload_n 3, 1, [], 0) :: (29, .isub, 1, [], 0) :: (30, .ireturn, 1, [], 0) :: c296_31
/-! 297 SueOrSettleModel.regrets()J -/
def c297_50 : List JE := (50, .lload_n 1, 1, [], 0) :: (51, .lreturn, 1, [], 0) :: []
def c297_14 : List JE := (14, .iload_n 3, 1, [], 0) :: (15, .aload_n 0, 1, [], 0) :: (16, .getfield 193, 3, [12, 5, 6200, 0], 0) :: (19, .if_icmp .ge 31, 3, [50], 0) :: (22, .lload_n 1, 1, [], 0) :: (23, .aload_n 0, 1, [], 0) :: (24, .getfield 24, 3, [12, 7, 6202, 0], 0) :: (27, .iload_n 3, 1, [], 0) :: (28, .laload, 1, [], 0) :: (29, .aload_n 0, 1, [], 0) :: (30, .aload_n 0, 1, [], 0) :: (31, .iconst 0, 1, [], 0) :: (32, .iload_n 3, 1, [], 0) :: (33, .iconst 0, 1, [], 0) :: (34, .invokevirtual 327, 3, [5, 3, 296, 12, 8144, 8146, 95, 1008], 0) :: (37, .invokevirtual 291, 3, [5, 1, 288, 12, 8103, 8105, 86, 1008], 0) :: (40, .i2l, 1, [], 0) :: (41, .lmul, 1, [], 0) :: (42, .ladd, 1, [], 0) :: (43, .lstore_n 1, 1, [], 0) :: (44, .iinc 3 1, 3, [], 0) :: (47, .goto (-33), 3, [14], 0) :: c297_50
def c297_10 : List JE := (10, .lconst 0, 1, [], 0) :: (11, .lstore_n 1, 1, [], 0) :: (12, .iconst 0, 1, [], 0) :: (13, .istore_n 3, 1, [], 0) :: c297_14
def c297_0 : List JE := (0, .aload_n 0, 1, [], 0) :: (1, .getfield 304, 3, [12, 37, 6232, 0], 0) :: (4, .iconst 3, 1, [], 0) :: (5, .if_icmp .eq 5, 3, [10], 0) :: (8, .lconst 0, 1, [], 0) :: (9, .lreturn, 1, [], 0) :: c297_10
/-! 298 SueOrSettleModel.wholeWorth(IIIZ)J -/
def c298_0 : List JE := (0, .aload_n 0, 1, [], 0) :: (1, .iload_n 1, 1, [], 0) :: (2, .iload_n 2, 1, [], 0) :: (3, .iload_n 3, 1, [], 0) :: (4, .iload 4, 2, [], 0) :: (6, .invokevirtual 330, 3, [5, 4, 291, 12, 8120, 8122, 89, 1008], 0) :: (9, .aload_n 0, 1, [], 0) :: (10, .iconst 0, 1, [], 0) :: (11, .iconst 0, 1, [], 0) :: (12, .invokevirtual 324, 3, [5, 2, 294, 12, 8124, 8126, 90, 1008], 0) :: (15, .aload_n 0, 1, [], 0) :: (16, .invokevirtual 334, 3, [5, 0, 297, 12, 8140, 8142, 94, 1008], 0) :: (19, .lsub, 1, [], 0) :: (20, .lreturn, 1, [], 0) :: []
/-! 299 SueOrSettleModel.bottomFor(I)J -/
def c299_19 : List JE := (19, .lreturn, 1, [], 0) :: []
def c299_11 : List JE := (11, .ldc2_w 337, 3, [8152], 100) :: (14, .aload_n 0, 1, [], 0) :: (15, .getfield 189, 3, [12, 8, 6203, 0], 0) :: (18, .lmul, 1, [], 0) :: c299_19
def c299_0 : List JE := (0, .iload_n 1, 1, [], 0) :: (1, .iconst 2, 1, [], 0) :: (2, .if_icmp .ne 9, 3, [11], 0) :: (5, .ldc2_w 337, 3, [8152], 100) :: (8, .goto 11, 3, [19], 0) :: c299_11
/-! 300 SueOrSettleModel.planBest(I)V -/
def c300_50 : List JE := (50, .return_, 1, [], 0) :: []
def c300_44 : List JE := (44, .iinc 2 1, 3, [], 0) :: (47, .goto (-45), 3, [2], 0) :: c300_50
def c300_2 : List JE := (2, .iload_n 2, 1, [], 0) :: (3, .aload_n 0, 1, [], 0) :: (4, .getfield 28, 3, [12, 10, 6205, 0], 0) :: (7, .iload_n 1, 1, [], 0) :: (8, .iaload, 1, [], 0) :: (9, .if_icmp .ge 41, 3, [50], 0) :: (12, .aload_n 0, 1, [], 0) :: (13, .getfield 31, 3, [12, 11, 6206, 0], 0) :: (16, .bipush 100, 2, [], 0) :: (18, .iload_n 1, 1, [], 0) :: (19, .imul, 1, [], 0) :: (20, .iload_n 2, 1, [], 0) :: (21, .iadd, 1, [], 0) :: (22, .baload, 1, [22], 0) :: (23, .iconst 1, 1, [], 0) :: (24, .if_icmp .ne 20, 3, [44], 0) :: (27, .aload_n 0, 1, [], 0) :: (28, .getfield 44, 3, [12, 15, 6210, 0], 0) :: (31, .bipush 100, 2, [], 0) :: (33, .iload_n 1, 1, [], 0) :: (34, .imul, 1, [], 0) :: (35, .iload_n 2, 1, [], 0) :: (36, .iadd, 1, [], 0) :: (37, .aload_n 0, 1, [], 0) :: (38, .getfield 80, 3, [12, 35, 6230, 0], 0) :: (41, .iload_n 2, 1, [], 0) :: (42, .baload, 1, [22], 0) :: (43, .bastore, 1, [22], 0) :: c300_44
def c300_0 : List JE := (0, .iconst 0, 1, [], 0) :: (1, .istore_n 2, 1, [], 0) :: c300_2
/-! 301 SueOrSettleModel.best(III)J -/
def c301_82 : List JE := (82, .aload_n 0, 1, [], 0) :: (83, .iload_n 1, 1, [], 0) :: (84, .invokevirtual 348, 3, [5, 1, 300, 12, 8153, 8155, 97, 1008], 0) :: (87, .lconst 1, 1, [], 0) :: (88, .lreturn, 1, [], 0) :: []
def c301_40 : List JE := (40, .aload_n 0, 1, [], 0) :: (41, .iload_n 1, 1, [], 0) :: (42, .aload_n 0, 1, [], 0) :: (43, .getfield 65, 3, [12, 29, 6224, 0], 0) :: (46, .iload_n 2, 1, [], 0) :: (47, .iaload, 1, [], 0) :: (48, .aload_n 0, 1, [], 0) :: (49, .getfield 68, 3, [12, 30, 6225, 0], 0) :: (52, .iload_n 2, 1, [], 0) :: (53, .iaload, 1, [], 0) :: (54, .iconst 0, 1, [], 0) :: (55, .invokevirtual 341, 3, [5, 4, 298, 12, 8116, 8118, 88, 1008], 0) :: (58, .lstore 4, 2, [], 0) :: (60, .iload_n 3, 1, [], 0) :: (61, .iconst 2, 1, [], 0) :: (62, .if_icmp .ge 20, 3, [82], 0) :: (65, .lload 4, 2, [], 0) :: (67, .aload_n 0, 1, [], 0) :: (68, .aload_n 0, 1, [], 0) :: (69, .getfield 65, 3, [12, 29, 6224, 0], 0) :: (72, .iload_n 2, 1, [], 0) :: (73, .iaload, 1, [], 0) :: (74, .invokevirtual 345, 3, [5, 1, 299, 12, 8148, 8150, 96, 1008], 0) :: (77, .iload_n 3, 1, [], 0) :: (78, .invokestatic 212, 3, [0, 3, 244, 7231, 7232, 1008], 0) :: (81, .lreturn, 1, [], 0) :: c301_82
def c301_29 : List JE := (29, .aload_n 0, 1, [], 0) :: (30, .invokevirtual 201, 3, [5, 0, 256, 12, 7211, 7213, 64, 1008], 0) :: (33, .ifCond .ne 7, 3, [40], 0) :: (36, .ldc2_w 339, 3, [8115], (-9223372036854775808)) :: (39, .lreturn, 1, [], 0) :: c301_40
def c301_25 : List JE := (25, .ldc2_w 339, 3, [8115], (-9223372036854775808)) :: (28, .lreturn, 1, [], 0) :: c301_29
def c301_0 : List JE := (0, .aload_n 0, 1, [], 0) :: (1, .iload_n 1, 1, [], 0) :: (2, .invokevirtual 216, 3, [5, 1, 261, 12, 8046, 8048, 78, 1008], 0) :: (5, .ifCond .eq 20, 3, [25], 0) :: (8, .aload_n 0, 1, [], 0) :: (9, .iload_n 2, 1, [], 0) :: (10, .invokevirtual 294, 3, [5, 1, 284, 12, 8095, 8097, 84, 1008], 0) :: (13, .ifCond .eq 12, 3, [25], 0) :: (16, .iload_n 3, 1, [], 0) :: (17, .iconst 0, 1, [], 0) :: (18, .iconst 2, 1, [], 0) :: (19, .invokestatic 145, 3, [0, 3, 242, 7158, 7159, 1008], 0) :: (22, .ifCond .ne 7, 3, [29], 0) :: c301_25
/-! 302 SueOrSettleModel.plan(III)I -/
def c302_62 : List JE := (62, .iload 4, 2, [], 0) :: (64, .ireturn, 1, [], 0) :: []
def c302_32 : List JE := (32, .aload_n 0, 1, [], 0) :: (33, .getfield 44, 3, [12, 15, 6210, 0], 0) :: (36, .bipush 100, 2, [], 0) :: (38, .iload_n 1, 1, [], 0) :: (39, .imul, 1, [], 0) :: (40, .iload_n 2, 1, [], 0) :: (41, .iadd, 1, [], 0) :: (42, .baload, 1, [22], 0) :: (43, .istore 4, 2, [], 0) :: (45, .iload_n 3, 1, [], 0) :: (46, .ifCond .lt 16, 3, [62], 0) :: (49, .aload_n 0, 1, [], 0) :: (50, .getfield 44, 3, [12, 15, 6210, 0], 0) :: (53, .bipush 100, 2, [], 0) :: (55, .iload_n 1, 1, [], 0) :: (56, .imul, 1, [], 0) :: (57, .iload_n 2, 1, [], 0) :: (58, .iadd, 1, [], 0) :: (59, .iload_n 3, 1, [], 0) :: (60, .i2b, 1, [], 0) :: (61, .bastore, 1, [22], 0) :: c302_62
def c302_30 : List JE := (30, .iconst (-1), 1, [], 0) :: (31, .ireturn, 1, [], 0) :: c302_32
def c302_0 : List JE := (0, .aload_n 0, 1, [], 0) :: (1, .iload_n 1, 1, [], 0) :: (2, .iload_n 2, 1, [], 0) :: (3, .invokevirtual 273, 3, [5, 2, 277, 12, 8067, 8069, 82, 1008], 0) :: (6, .ifCond .eq 24, 3, [30], 0) :: (9, .iload_n 3, 1, [], 0) :: (10, .iconst (-1), 1, [], 0) :: (11, .aload_n 0, 1, [], 0) :: (12, .getfield 35, 3, [12, 12, 6207, 0], 0) :: (15, .bipush 100, 2, [], 0) :: (17, .iload_n 1, 1, [], 0) :: (18, .imul, 1, [], 0) :: (19, .iload_n 2, 1, [], 0) :: (20, .iadd, 1, [], 0) :: (21, .iaload, 1, [], 0) :: (22, .iconst 1, 1, [], 0) :: (23, .isub, 1, [], 0) :: (24, .invokestatic 145, 3, [0, 3, 242, 7158, 7159, 1008], 0) :: (27, .ifCond .ne 5, 3, [32], 0) :: c302_30
/-! 303 SueOrSettleModel.judge(III)J -/
def c303_74 : List JE := (74, .lreturn, 1, [], 0) :: []
def c303_71 : List JE := (71, .ldc2_w 339, 3, [8115], (-9223372036854775808)) :: c303_74
def c303_29 : List JE := (29, .aload_n 0, 1, [], 0) :: (30, .invokevirtual 201, 3, [5, 0, 256, 12, 7211, 7213, 64, 1008], 0) :: (33, .ifCond .eq 38, 3, [71], 0) :: (36, .aload_n 0, 1, [], 0) :: (37, .iload_n 1, 1, [], 0) :: (38, .aload_n 0, 1, [], 0) :: (39, .getfield 65, 3, [12, 29, 6224, 0], 0) :: (42, .iload_n 2, 1, [], 0) :: (43, .iaload, 1, [], 0) :: (44, .aload_n 0, 1, [], 0) :: (45, .getfield 68, 3, [12, 30, 6225, 0], 0) :: (48, .iload_n 2, 1, [], 0) :: (49, .iaload, 1, [], 0) :: (50, .iconst 1, 1, [], 0) :: (51, .invokevirtual 341, 3, [5, 4, 298, 12, 8116, 8118, 88, 1008], 0) :: (54, .aload_n 0, 1, [], 0) :: (55, .aload_n 0, 1, [], 0) :: (56, .getfield 65, 3, [12, 29, 6224, 0], 0) :: (59, .iload_n 2, 1, [], 0) :: (60, .iaload, 1, [], 0) :: (61, .invokevirtual 345, 3, [5, 1, 299, 12, 8148, 8150, 96, 1008], 0) :: (64, .iload_n 3, 1, [], 0) :: (65, .invokestatic 212, 3, [0, 3, 244, 7231, 7232, 1008], 0) :: (68, .goto 6, 3, [74], 0) :: c303_71
def c303_25 : List JE := (25, .ldc2_w 339, 3, [8115], (-9223372036854775808)) :: (28, .lreturn, 1, [], 0) :: c303_29
def c303_0 : List JE := (0, .aload_n 0, 1, [], 0) :: (1, .iload_n 1, 1, [], 0) :: (2, .invokevirtual 216, 3, [5, 1, 261, 12, 8046, 8048, 78, 1008], 0) :: (5, .ifCond .eq 20, 3, [25], 0) :: (8, .aload_n 0, 1, [], 0) :: (9, .iload_n 2, 1, [], 0) :: (10, .invokevirtual 294, 3, [5, 1, 284, 12, 8095, 8097, 84, 1008], 0) :: (13, .ifCond .eq 12, 3, [25], 0) :: (16, .iload_n 3, 1, [], 0) :: (17, .iconst 0, 1, [], 0) :: (18, .iconst 1, 1, [], 0) :: (19, .invokestatic 145, 3, [0, 3, 242, 7158, 7159, 1008], 0) :: (22, .ifCond .ne 7, 3, [29], 0) :: c303_25
/-! 304 SueOrSettleModel.shortOf(II)I -/
def c304_186 : List JE := (186, .bipush (-2), 2, [], 0) :: (188, .ireturn, 1, [], 0) :: []
def c304_180 : List JE := (180, .iinc 5 1, 3, [], 0) :: (183, .goto (-133), 3, [50], 0) :: c304_186
def c304_162 : List JE := (162, .aload_n 0, 1, [], 0) :: (163, .getfield 44, 3, [12, 15, 6210, 0], 0) :: (166, .iload 6, 2, [], 0) :: (168, .iload 7, 2, [], 0) :: (170, .i2b, 1, [], 0) :: (171, .bastore, 1, [22], 0) :: (172, .iload 8, 2, [], 0) :: (174, .ifCond .eq 6, 3, [180], 0) :: (177, .iload 5, 2, [], 0) :: (179, .ireturn, 1, [], 0) :: c304_180
def c304_154 : List JE := (154, .istore 8, 2, [], 0) :: (156, .iinc 9 1, 3, [], 0) :: (159, .goto (-60), 3, [99], 0) :: c304_162
def c304_153 : List JE := (153, .iconst 0, 1, [], 0) :: c304_154
def c304_99 : List JE := (99, .iload 9, 2, [], 0) :: (101, .aload_n 0, 1, [], 0) :: (102, .getfield 35, 3, [12, 12, 6207, 0], 0) :: (105, .iload 6, 2, [], 0) :: (107, .iaload, 1, [], 0) :: (108, .if_icmp .ge 54, 3, [162], 0) :: (111, .iload 8, 2, [], 0) :: (113, .ifCond .ne 49, 3, [162], 0) :: (116, .aload_n 0, 1, [], 0) :: (117, .getfield 44, 3, [12, 15, 6210, 0], 0) :: (120, .iload 6, 2, [], 0) :: (122, .iload 9, 2, [], 0) :: (124, .i2b, 1, [], 0) :: (125, .bastore, 1, [22], 0) :: (126, .aload_n 0, 1, [], 0) :: (127, .iload_n 1, 1, [], 0) :: (128, .aload_n 0, 1, [], 0) :: (129, .getfield 65, 3, [12, 29, 6224, 0], 0) :: (132, .iload_n 2, 1, [], 0) :: (133, .iaload, 1, [], 0) :: (134, .aload_n 0, 1, [], 0) :: (135, .getfield 68, 3, [12, 30, 6225, 0], 0) :: (138, .iload_n 2, 1, [], 0) :: (139, .iaload, 1, [], 0) :: (140, .iconst 1, 1, [], 0) :: (141, .invokevirtual 341, 3, [5, 4, 298, 12, 8116, 8118, 88, 1008], 0) :: (144, .lload_n 3, 1, [], 0) :: (145, .lcmp, 1, [], 0) :: (146, .ifCond .le 7, 3, [153], 0) :: (149, .iconst 1, 1, [], 0) :: (150, .goto 4, 3, [154], 0) :: c304_153
def c304_84 : List JE := (84, .aload_n 0, 1, [], 0) :: (85, .getfield 44, 3, [12, 15, 6210, 0], 0) :: (88, .iload 6, 2, [], 0) :: (90, .baload, 1, [22], 0) :: (91, .istore 7, 2, [], 0) :: (93, .iconst 0, 1, [], 0) :: (94, .istore 8, 2, [], 0) :: (96, .iconst 0, 1, [], 0) :: (97, .istore 9, 2, [], 0) :: c304_99
def c304_50 : List JE := (50, .iload 5, 2, [], 0) :: (52, .aload_n 0, 1, [], 0) :: (53, .getfield 28, 3, [12, 10, 6205, 0], 0) :: (56, .iload_n 1, 1, [], 0) :: (57, .iaload, 1, [], 0) :: (58, .if_icmp .ge 128, 3, [186], 0) :: (61, .bipush 100, 2, [], 0) :: (63, .iload_n 1, 1, [], 0) :: (64, .imul, 1, [], 0) :: (65, .iload 5, 2, [], 0) :: (67, .iadd, 1, [], 0) :: (68, .istore 6, 2, [], 0) :: (70, .aload_n 0, 1, [], 0) :: (71, .getfield 31, 3, [12, 11, 6206, 0], 0) :: (74, .iload 6, 2, [], 0) :: (76, .baload, 1, [22], 0) :: (77, .iconst 1, 1, [], 0) :: (78, .if_icmp .eq 6, 3, [84], 0) :: (81, .goto 99, 3, [180], 0) :: c304_84
def c304_28 : List JE := (28, .aload_n 0, 1, [], 0) :: (29, .iload_n 1, 1, [], 0) :: (30, .aload_n 0, 1, [], 0) :: (31, .getfield 65, 3, [12, 29, 6224, 0], 0) :: (34, .iload_n 2, 1, [], 0) :: (35, .iaload, 1, [], 0) :: (36, .aload_n 0, 1, [], 0) :: (37, .getfield 68, 3, [12, 30, 6225, 0], 0) :: (40, .iload_n 2, 1, [], 0) :: (41, .iaload, 1, [], 0) :: (42, .iconst 1, 1, [], 0) :: (43, .invokevirtual 341, 3, [5, 4, 298, 12, 8116, 8118, 88, 1008], 0) :: (46, .lstore_n 3, 1, [], 0) :: (47, .iconst 0, 1, [], 0) :: (48, .istore 5, 2, [], 0) :: c304_50
def c304_18 : List JE := (18, .aload_n 0, 1, [], 0) :: (19, .invokevirtual 201, 3, [5, 0, 256, 12, 7211, 7213, 64, 1008], 0) :: (22, .ifCond .ne 6, 3, [28], 0) :: (25, .bipush (-4), 2, [], 0) :: (27, .ireturn, 1, [], 0) :: c304_28
def c304_16 : List JE := (16, .iconst (-1), 1, [], 0) :: (17, .ireturn, 1, [], 0) :: c304_18
def c304_0 : List JE := (0, .aload_n 0, 1, [], 0) :: (1, .iload_n 1, 1, [], 0) :: (2, .invokevirtual 216, 3, [5, 1, 261, 12, 8046, 8048, 78, 1008], 0) :: (5, .ifCond .eq 11, 3, [16], 0) :: (8, .aload_n 0, 1, [], 0) :: (9, .iload_n 2, 1, [], 0) :: (10, .invokevirtual 294, 3, [5, 1, 284, 12, 8095, 8097, 84, 1008], 0) :: (13, .ifCond .ne 5, 3, [18], 0) :: c304_16
/-! 305 SueOrSettleModel.goesTo(II)Z -/
def c305_102 : List JE := (102, .iconst 0, 1, [], 0) :: (103, .ireturn, 1, [1], 0) :: []
def c305_80 : List JE := (80, .aload_n 0, 1, [], 0) :: (81, .getfield 31, 3, [12, 11, 6206, 0], 0) :: (84, .iload_n 3, 1, [], 0) :: (85, .baload, 1, [22], 0) :: (86, .iconst 2, 1, [], 0) :: (87, .if_icmp .ne 15, 3, [102], 0) :: (90, .aload_n 0, 1, [], 0) :: (91, .getfield 77, 3, [12, 34, 6229, 0], 0) :: (94, .aload_n 0, 1, [], 0) :: (95, .getfield 35, 3, [12, 12, 6207, 0], 0) :: (98, .iload_n 3, 1, [], 0) :: (99, .iaload, 1, [], 0) :: (100, .iconst (-1), 1, [], 0) :: (101, .iastore, 1, [], 0) :: c305_102
def c305_74 : List JE := (74, .iinc 4 1, 3, [], 0) :: (77, .goto (-57), 3, [20], 0) :: c305_80
def c305_53 : List JE := (53, .aload_n 0, 1, [], 0) :: (54, .aload_n 0, 1, [], 0) :: (55, .getfield 38, 3, [12, 13, 6208, 0], 0) :: (58, .iconst 4, 1, [], 0) :: (59, .iload_n 3, 1, [], 0) :: (60, .imul, 1, [], 0) :: (61, .iload 4, 2, [], 0) :: (63, .iadd, 1, [], 0) :: (64, .baload, 1, [22], 0) :: (65, .iload_n 2, 1, [], 0) :: (66, .invokevirtual 352, 3, [5, 2, 305, 12, 8173, 8175, 98, 1008], 0) :: (69, .ifCond .eq 5, 3, [74], 0) :: (72, .iconst 1, 1, [], 0) :: (73, .ireturn, 1, [1], 0) :: c305_74
def c305_20 : List JE := (20, .iload 4, 2, [], 0) :: (22, .aload_n 0, 1, [], 0) :: (23, .iload_n 3, 1, [], 0) :: (24, .invokevirtual 270, 3, [5, 1, 276, 12, 8055, 8057, 80, 1008], 0) :: (27, .if_icmp .ge 53, 3, [80], 0) :: (30, .aload_n 0, 1, [], 0) :: (31, .getfield 31, 3, [12, 11, 6206, 0], 0) :: (34, .iload_n 3, 1, [], 0) :: (35, .baload, 1, [22], 0) :: (36, .iconst 2, 1, [], 0) :: (37, .if_icmp .ne 16, 3, [53], 0) :: (40, .aload_n 0, 1, [], 0) :: (41, .getfield 77, 3, [12, 34, 6229, 0], 0) :: (44, .aload_n 0, 1, [], 0) :: (45, .getfield 35, 3, [12, 12, 6207, 0], 0) :: (48, .iload_n 3, 1, [], 0) :: (49, .iaload, 1, [], 0) :: (50, .iload 4, 2, [], 0) :: (52, .iastore, 1, [], 0) :: c305_53
def c305_7 : List JE := (7, .bipush 100, 2, [], 0) :: (9, .aload_n 0, 1, [], 0) :: (10, .getfield 301, 3, [12, 36, 6231, 0], 0) :: (13, .imul, 1, [], 0) :: (14, .iload_n 1, 1, [], 0) :: (15, .iadd, 1, [], 0) :: (16, .istore_n 3, 1, [], 0) :: (17, .iconst 0, 1, [], 0) :: (18, .istore 4, 2, [], 0) :: c305_20
def c305_0 : List JE := (0, .iload_n 1, 1, [], 0) :: (1, .iload_n 2, 1, [], 0) :: (2, .if_icmp .ne 5, 3, [7], 0) :: (5, .iconst 1, 1, [], 0) :: (6, .ireturn, 1, [1], 0) :: c305_7
/-! 306 SueOrSettleModel.fork(IIII)J -/
def c306_76 : List JE := (76, .iconst 4, 1, [], 0) :: (77, .bipush 100, 2, [], 0) :: (79, .iload_n 1, 1, [], 0) :: (80, .imul, 1, [], 0) :: (81, .iload_n 2, 1, [], 0) :: (82, .iadd, 1, [], 0) :: (83, .imul, 1, [], 0) :: (84, .iload_n 3, 1, [], 0) :: (85, .iadd, 1, [], 0) :: (86, .istore 5, 2, [], 0) :: (88, .aload_n 0, 1, [], 0) :: (89, .aload_n 0, 1, [], 0) :: (90, .getfield 38, 3, [12, 13, 6208, 0], 0) :: (93, .iload 5, 2, [], 0) :: (95, .baload, 1, [22], 0) :: (96, .aload_n 0, 1, [], 0) :: (97, .getfield 41, 3, [12, 14, 6209, 0], 0) :: (100, .iload 5, 2, [], 0) :: (102, .iaload, 1, [], 0) :: (103, .invokevirtual 324, 3, [5, 2, 294, 12, 8124, 8126, 90, 1008], 0) :: (106, .ldc2_w 337, 3, [8152], 100) :: (109, .aload_n 0, 1, [], 0) :: (110, .invokevirtual 317, 3, [5, 0, 293, 12, 8128, 8130, 91, 1008], 0) :: (113, .lmul, 1, [], 0) :: (114, .iload 4, 2, [], 0) :: (116, .invokestatic 212, 3, [0, 3, 244, 7231, 7232, 1008], 0) :: (119, .lreturn, 1, [], 0) :: []
def c306_55 : List JE := (55, .aload_n 0, 1, [], 0) :: (56, .iload_n 1, 1, [], 0) :: (57, .iconst 0, 1, [], 0) :: (58, .iconst 0, 1, [], 0) :: (59, .iconst 0, 1, [], 0) :: (60, .invokevirtual 330, 3, [5, 4, 291, 12, 8120, 8122, 89, 1008], 0) :: (63, .aload_n 0, 1, [], 0) :: (64, .iconst 0, 1, [], 0) :: (65, .iload_n 2, 1, [], 0) :: (66, .invokevirtual 352, 3, [5, 2, 305, 12, 8173, 8175, 98, 1008], 0) :: (69, .ifCond .ne 7, 3, [76], 0) :: (72, .ldc2_w 339, 3, [8115], (-9223372036854775808)) :: (75, .lreturn, 1, [], 0) :: c306_76
def c306_44 : List JE := (44, .aload_n 0, 1, [], 0) :: (45, .invokevirtual 201, 3, [5, 0, 256, 12, 7211, 7213, 64, 1008], 0) :: (48, .ifCond .ne 7, 3, [55], 0) :: (51, .ldc2_w 339, 3, [8115], (-9223372036854775808)) :: (54, .lreturn, 1, [], 0) :: c306_55
def c306_40 : List JE := (40, .ldc2_w 339, 3, [8115], (-9223372036854775808)) :: (43, .lreturn, 1, [], 0) :: c306_44
def c306_0 : List JE := (0, .aload_n 0, 1, [], 0) :: (1, .iload_n 1, 1, [], 0) :: (2, .iload_n 2, 1, [], 0) :: (3, .invokevirtual 273, 3, [5, 2, 277, 12, 8067, 8069, 82, 1008], 0) :: (6, .ifCond .eq 34, 3, [40], 0) :: (9, .iload_n 3, 1, [], 0) :: (10, .iconst 0, 1, [], 0) :: (11, .aload_n 0, 1, [], 0) :: (12, .getfield 35, 3, [12, 12, 6207, 0], 0) :: (15, .bipush 100, 2, [], 0) :: (17, .iload_n 1, 1, [], 0) :: (18, .imul, 1, [], 0) :: (19, .iload_n 2, 1, [], 0) :: (20, .iadd, 1, [], 0) :: (21, .iaload, 1, [], 0) :: (22, .iconst 1, 1, [], 0) :: (23, .isub, 1, [], 0) :: (24, .invokestatic 145, 3, [0, 3, 242, 7158, 7159, 1008], 0) :: (27, .ifCond .eq 13, 3, [40], 0) :: (30, .iload 4, 2, [], 0) :: (32, .iconst 0, 1, [], 0) :: (33, .iconst 1, 1, [], 0) :: (34, .invokestatic 145, 3, [0, 3, 242, 7158, 7159, 1008], 0) :: (37, .ifCond .ne 7, 3, [44], 0) :: c306_40
/-! 307 SueOrSettleModel.tellOn(II)V -/
def c307_125 : List JE := (125, .return_, 1, [], 0) :: []
def c307_87 : List JE := (87, .iload 4, 2, [], 0) :: (89, .aload_n 0, 1, [], 0) :: (90, .getfield 9, 3, [12, 2, 6197, 0], 0) :: (93, .aload_n 0, 1, [], 0) :: (94, .getfield 35, 3, [12, 12, 6207, 0], 0) :: (97, .iload_n 3, 1, [], 0) :: (98, .iaload, 1, [], 0) :: (99, .iaload, 1, [], 0) :: (100, .if_icmp .ge 25, 3, [125], 0) :: (103, .aload_n 0, 1, [], 0) :: (104, .iload_n 1, 1, [], 0) :: (105, .aload_n 0, 1, [], 0) :: (106, .getfield 38, 3, [12, 13, 6208, 0], 0) :: (109, .iconst 4, 1, [], 0) :: (110, .iload_n 3, 1, [], 0) :: (111, .imul, 1, [], 0) :: (112, .iload 4, 2, [], 0) :: (114, .iadd, 1, [], 0) :: (115, .baload, 1, [22], 0) :: (116, .invokevirtual 364, 3, [5, 2, 307, 12, 8181, 8183, 99, 1008], 0) :: (119, .iinc 4 1, 3, [], 0) :: (122, .goto (-35), 3, [87], 0) :: c307_125
def c307_84 : List JE := (84, .iconst 0, 1, [], 0) :: (85, .istore 4, 2, [], 0) :: c307_87
def c307_53 : List JE := (53, .aload_n 0, 1, [], 0) :: (54, .dup, 1, [], 0) :: (55, .getfield 355, 3, [12, 40, 6235, 0], 0) :: (58, .iconst 1, 1, [], 0) :: (59, .iadd, 1, [], 0) :: (60, .putfield 355, 3, [12, 40, 6235, 0], 0) :: (63, .aload_n 0, 1, [], 0) :: (64, .iload_n 1, 1, [], 0) :: (65, .aload_n 0, 1, [], 0) :: (66, .getfield 38, 3, [12, 13, 6208, 0], 0) :: (69, .iconst 4, 1, [], 0) :: (70, .iload_n 3, 1, [], 0) :: (71, .imul, 1, [], 0) :: (72, .aload_n 0, 1, [], 0) :: (73, .getfield 44, 3, [12, 15, 6210, 0], 0) :: (76, .iload_n 3, 1, [], 0) :: (77, .baload, 1, [22], 0) :: (78, .iadd, 1, [], 0) :: (79, .baload, 1, [22], 0) :: (80, .invokevirtual 364, 3, [5, 2, 307, 12, 8181, 8183, 99, 1008], 0) :: (83, .return_, 1, [], 0) :: c307_84
def c307_17 : List JE := (17, .aload_n 0, 1, [], 0) :: (18, .getfield 31, 3, [12, 11, 6206, 0], 0) :: (21, .iload_n 3, 1, [], 0) :: (22, .baload, 1, [22], 0) :: (23, .iconst 1, 1, [], 0) :: (24, .if_icmp .ne 60, 3, [84], 0) :: (27, .aload_n 0, 1, [], 0) :: (28, .getfield 355, 3, [12, 40, 6235, 0], 0) :: (31, .aload_n 0, 1, [], 0) :: (32, .getfield 358, 3, [12, 41, 6236, 0], 0) :: (35, .if_icmp .ne 18, 3, [53], 0) :: (38, .aload_n 0, 1, [], 0) :: (39, .bipush 10, 2, [], 0) :: (41, .iload_n 2, 1, [], 0) :: (42, .imul, 1, [], 0) :: (43, .aload_n 0, 1, [], 0) :: (44, .getfield 44, 3, [12, 15, 6210, 0], 0) :: (47, .iload_n 3, 1, [], 0) :: (48, .baload, 1, [22], 0) :: (49, .iadd, 1, [], 0) :: (50, .putfield 361, 3, [12, 42, 6237, 0], 0) :: c307_53
def c307_0 : List JE := (0, .bipush 100, 2, [], 0) :: (2, .iload_n 1, 1, [], 0) :: (3, .imul, 1, [], 0) :: (4, .iload_n 2, 1, [], 0) :: (5, .iadd, 1, [], 0) :: (6, .istore_n 3, 1, [], 0) :: (7, .aload_n 0, 1, [], 0) :: (8, .getfield 31, 3, [12, 11, 6206, 0], 0) :: (11, .iload_n 3, 1, [], 0) :: (12, .baload, 1, [22], 0) :: (13, .ifCond .ne 4, 3, [17], 0) :: (16, .return_, 1, [], 0) :: c307_17
/-! 308 SueOrSettleModel.tell(II)I -/
def c308_58 : List JE := (58, .ireturn, 1, [], 0) :: []
def c308_57 : List JE := (57, .iconst (-1), 1, [], 0) :: c308_58
def c308_42 : List JE := (42, .iload_n 2, 1, [], 0) :: (43, .aload_n 0, 1, [], 0) :: (44, .getfield 355, 3, [12, 40, 6235, 0], 0) :: (47, .if_icmp .ge 10, 3, [57], 0) :: (50, .aload_n 0, 1, [], 0) :: (51, .getfield 361, 3, [12, 42, 6237, 0], 0) :: (54, .goto 4, 3, [58], 0) :: c308_57
def c308_15 : List JE := (15, .aload_n 0, 1, [], 0) :: (16, .iconst 0, 1, [], 0) :: (17, .putfield 355, 3, [12, 40, 6235, 0], 0) :: (20, .aload_n 0, 1, [], 0) :: (21, .iload_n 2, 1, [], 0) :: (22, .putfield 358, 3, [12, 41, 6236, 0], 0) :: (25, .aload_n 0, 1, [], 0) :: (26, .iload_n 1, 1, [], 0) :: (27, .iconst 0, 1, [], 0) :: (28, .invokevirtual 364, 3, [5, 2, 307, 12, 8181, 8183, 99, 1008], 0) :: (31, .iload_n 2, 1, [], 0) :: (32, .ifCond .ge 10, 3, [42], 0) :: (35, .aload_n 0, 1, [], 0) :: (36, .getfield 355, 3, [12, 40, 6235, 0], 0) :: (39, .goto 19, 3, [58], 0) :: c308_42
def c308_13 : List JE := (13, .iconst (-1), 1, [], 0) :: (14, .ireturn, 1, [], 0) :: c308_15
def c308_0 : List JE := (0, .aload_n 0, 1, [], 0) :: (1, .iload_n 1, 1, [], 0) :: (2, .invokevirtual 216, 3, [5, 1, 261, 12, 8046, 8048, 78, 1008], 0) :: (5, .ifCond .eq 8, 3, [13], 0) :: (8, .iload_n 2, 1, [], 0) :: (9, .iconst (-1), 1, [], 0) :: (10, .if_icmp .ge 5, 3, [15], 0) :: c308_13
/-! 309 SueOrSettleModel.bestKnowing(III)J -/
def c309_94 : List JE := (94, .lload 4, 2, [], 0) :: (96, .lreturn, 1, [], 0) :: []
def c309_88 : List JE := (88, .iinc 6 1, 3, [], 0) :: (91, .goto (-85), 3, [6], 0) :: c309_94
def c309_71 : List JE := (71, .lload 4, 2, [], 0) :: (73, .aload_n 0, 1, [], 0) :: (74, .iconst 0, 1, [], 0) :: (75, .iconst 0, 1, [], 0) :: (76, .invokevirtual 324, 3, [5, 2, 294, 12, 8124, 8126, 90, 1008], 0) :: (79, .ladd, 1, [], 0) :: (80, .lstore 4, 2, [], 0) :: (82, .iinc 8 1, 3, [], 0) :: (85, .goto (-49), 3, [36], 0) :: c309_88
def c309_36 : List JE := (36, .iload 8, 2, [], 0) :: (38, .iload 7, 2, [], 0) :: (40, .if_icmp .ge 48, 3, [88], 0) :: (43, .aload_n 0, 1, [], 0) :: (44, .iload_n 1, 1, [], 0) :: (45, .iconst 0, 1, [], 0) :: (46, .iconst 0, 1, [], 0) :: (47, .iconst 0, 1, [], 0) :: (48, .invokevirtual 330, 3, [5, 4, 291, 12, 8120, 8122, 89, 1008], 0) :: (51, .aload_n 0, 1, [], 0) :: (52, .getfield 77, 3, [12, 34, 6229, 0], 0) :: (55, .iload_n 2, 1, [], 0) :: (56, .iload 6, 2, [], 0) :: (58, .iastore, 1, [], 0) :: (59, .iload_n 3, 1, [], 0) :: (60, .ifCond .lt 11, 3, [71], 0) :: (63, .aload_n 0, 1, [], 0) :: (64, .getfield 77, 3, [12, 34, 6229, 0], 0) :: (67, .iload_n 3, 1, [], 0) :: (68, .iload 8, 2, [], 0) :: (70, .iastore, 1, [], 0) :: c309_71
def c309_31 : List JE := (31, .istore 7, 2, [], 0) :: (33, .iconst 0, 1, [], 0) :: (34, .istore 8, 2, [], 0) :: c309_36
def c309_25 : List JE := (25, .aload_n 0, 1, [], 0) :: (26, .getfield 9, 3, [12, 2, 6197, 0], 0) :: (29, .iload_n 3, 1, [], 0) :: (30, .iaload, 1, [], 0) :: c309_31
def c309_6 : List JE := (6, .iload 6, 2, [], 0) :: (8, .aload_n 0, 1, [], 0) :: (9, .getfield 9, 3, [12, 2, 6197, 0], 0) :: (12, .iload_n 2, 1, [], 0) :: (13, .iaload, 1, [], 0) :: (14, .if_icmp .ge 80, 3, [94], 0) :: (17, .iload_n 3, 1, [], 0) :: (18, .ifCond .ge 7, 3, [25], 0) :: (21, .iconst 1, 1, [], 0) :: (22, .goto 9, 3, [31], 0) :: c309_25
def c309_0 : List JE := (0, .lconst 0, 1, [], 0) :: (1, .lstore 4, 2, [], 0) :: (3, .iconst 0, 1, [], 0) :: (4, .istore 6, 2, [], 0) :: c309_6
/-! 310 SueOrSettleModel.askWorth(II)J -/
def c310_0 : List JE := (0, .aload_n 0, 1, [], 0) :: (1, .iload_n 1, 1, [], 0) :: (2, .iload_n 2, 1, [], 0) :: (3, .iconst (-1), 1, [], 0) :: (4, .invokevirtual 368, 3, [5, 3, 309, 12, 8197, 8199, 102, 1008], 0) :: (7, .aload_n 0, 1, [], 0) :: (8, .iload_n 1, 1, [], 0) :: (9, .iconst 0, 1, [], 0) :: (10, .iconst 0, 1, [], 0) :: (11, .iconst 0, 1, [], 0) :: (12, .invokevirtual 341, 3, [5, 4, 298, 12, 8116, 8118, 88, 1008], 0) :: (15, .lsub, 1, [], 0) :: (16, .lreturn, 1, [], 0) :: []
/-! 311 SueOrSettleModel.knowingAll(I)J -/
def c311_56 : List JE := (56, .lload 4, 2, [], 0) :: (58, .lload_n 2, 1, [], 0) :: (59, .lsub, 1, [], 0) :: (60, .lreturn, 1, [], 0) :: []
def c311_15 : List JE := (15, .iload 6, 2, [], 0) :: (17, .aload_n 0, 1, [], 0) :: (18, .getfield 193, 3, [12, 5, 6200, 0], 0) :: (21, .if_icmp .ge 35, 3, [56], 0) :: (24, .lload 4, 2, [], 0) :: (26, .aload_n 0, 1, [], 0) :: (27, .getfield 24, 3, [12, 7, 6202, 0], 0) :: (30, .iload 6, 2, [], 0) :: (32, .laload, 1, [], 0) :: (33, .ldc2_w 337, 3, [8152], 100) :: (36, .lmul, 1, [], 0) :: (37, .aload_n 0, 1, [], 0) :: (38, .iconst 0, 1, [], 0) :: (39, .iload 6, 2, [], 0) :: (41, .iconst 0, 1, [], 0) :: (42, .invokevirtual 327, 3, [5, 3, 296, 12, 8144, 8146, 95, 1008], 0) :: (45, .i2l, 1, [], 0) :: (46, .lmul, 1, [], 0) :: (47, .ladd, 1, [], 0) :: (48, .lstore 4, 2, [], 0) :: (50, .iinc 6 1, 3, [], 0) :: (53, .goto (-38), 3, [15], 0) :: c311_56
def c311_0 : List JE := (0, .aload_n 0, 1, [], 0) :: (1, .iload_n 1, 1, [], 0) :: (2, .iconst 0, 1, [], 0) :: (3, .iconst 0, 1, [], 0) :: (4, .iconst 0, 1, [], 0) :: (5, .invokevirtual 341, 3, [5, 4, 298, 12, 8116, 8118, 88, 1008], 0) :: (8, .lstore_n 2, 1, [], 0) :: (9, .lconst 0, 1, [], 0) :: (10, .lstore 4, 2, [], 0) :: (12, .iconst 0, 1, [], 0) :: (13, .istore 6, 2, [], 0) :: c311_15
/-! 312 SueOrSettleModel.ask(III)J -/
def c312_63 : List JE := (63, .ldc2_w 337, 3, [8152], 100) :: (66, .aload_n 0, 1, [], 0) :: (67, .getfield 189, 3, [12, 8, 6203, 0], 0) :: (70, .lmul, 1, [], 0) :: (71, .iload_n 3, 1, [], 0) :: (72, .invokestatic 212, 3, [0, 3, 244, 7231, 7232, 1008], 0) :: (75, .lreturn, 1, [], 0) :: []
def c312_57 : List JE := (57, .aload_n 0, 1, [], 0) :: (58, .iload_n 1, 1, [], 0) :: (59, .iload_n 2, 1, [], 0) :: (60, .invokevirtual 375, 3, [5, 2, 310, 12, 8193, 8195, 101, 1008], 0) :: c312_63
def c312_45 : List JE := (45, .iload_n 2, 1, [], 0) :: (46, .ifCond .ge 11, 3, [57], 0) :: (49, .aload_n 0, 1, [], 0) :: (50, .iload_n 1, 1, [], 0) :: (51, .invokevirtual 372, 3, [5, 1, 311, 12, 8189, 8191, 100, 1008], 0) :: (54, .goto 9, 3, [63], 0) :: c312_57
def c312_34 : List JE := (34, .aload_n 0, 1, [], 0) :: (35, .invokevirtual 201, 3, [5, 0, 256, 12, 7211, 7213, 64, 1008], 0) :: (38, .ifCond .ne 7, 3, [45], 0) :: (41, .ldc2_w 339, 3, [8115], (-9223372036854775808)) :: (44, .lreturn, 1, [], 0) :: c312_45
def c312_30 : List JE := (30, .ldc2_w 339, 3, [8115], (-9223372036854775808)) :: (33, .lreturn, 1, [], 0) :: c312_34
def c312_21 : List JE := (21, .iload_n 3, 1, [], 0) :: (22, .iconst 0, 1, [], 0) :: (23, .iconst 1, 1, [], 0) :: (24, .invokestatic 145, 3, [0, 3, 242, 7158, 7159, 1008], 0) :: (27, .ifCond .ne 7, 3, [34], 0) :: c312_30
def c312_0 : List JE := (0, .aload_n 0, 1, [], 0) :: (1, .iload_n 1, 1, [], 0) :: (2, .invokevirtual 216, 3, [5, 1, 261, 12, 8046, 8048, 78, 1008], 0) :: (5, .ifCond .eq 25, 3, [30], 0) :: (8, .iload_n 2, 1, [], 0) :: (9, .iconst (-1), 1, [], 0) :: (10, .if_icmp .eq 11, 3, [21], 0) :: (13, .aload_n 0, 1, [], 0) :: (14, .iload_n 2, 1, [], 0) :: (15, .invokevirtual 152, 3, [5, 1, 245, 12, 7165, 7167, 57, 1008], 0) :: (18, .ifCond .eq 12, 3, [30], 0) :: c312_21
/-! 313 SueOrSettleModel.together(IIII)J -/
def c313_54 : List JE := (54, .aload_n 0, 1, [], 0) :: (55, .iload_n 1, 1, [], 0) :: (56, .iload_n 2, 1, [], 0) :: (57, .iload_n 3, 1, [], 0) :: (58, .invokevirtual 368, 3, [5, 3, 309, 12, 8197, 8199, 102, 1008], 0) :: (61, .aload_n 0, 1, [], 0) :: (62, .iload_n 1, 1, [], 0) :: (63, .iconst 0, 1, [], 0) :: (64, .iconst 0, 1, [], 0) :: (65, .iconst 0, 1, [], 0) :: (66, .invokevirtual 341, 3, [5, 4, 298, 12, 8116, 8118, 88, 1008], 0) :: (69, .lsub, 1, [], 0) :: (70, .lstore 5, 2, [], 0) :: (72, .lload 5, 2, [], 0) :: (74, .aload_n 0, 1, [], 0) :: (75, .iload_n 1, 1, [], 0) :: (76, .iload_n 2, 1, [], 0) :: (77, .invokevirtual 375, 3, [5, 2, 310, 12, 8193, 8195, 101, 1008], 0) :: (80, .lsub, 1, [], 0) :: (81, .aload_n 0, 1, [], 0) :: (82, .iload_n 1, 1, [], 0) :: (83, .iload_n 3, 1, [], 0) :: (84, .invokevirtual 375, 3, [5, 2, 310, 12, 8193, 8195, 101, 1008], 0) :: (87, .lsub, 1, [], 0) :: (88, .ldc2_w 337, 3, [8152], 100) :: (91, .aload_n 0, 1, [], 0) :: (92, .getfield 189, 3, [12, 8, 6203, 0], 0) :: (95, .lmul, 1, [], 0) :: (96, .iload 4, 2, [], 0) :: (98, .invokestatic 212, 3, [0, 3, 244, 7231, 7232, 1008], 0) :: (101, .lreturn, 1, [], 0) :: []
def c313_43 : List JE := (43, .aload_n 0, 1, [], 0) :: (44, .invokevirtual 201, 3, [5, 0, 256, 12, 7211, 7213, 64, 1008], 0) :: (47, .ifCond .ne 7, 3, [54], 0) :: (50, .ldc2_w 339, 3, [8115], (-9223372036854775808)) :: (53, .lreturn, 1, [], 0) :: c313_54
def c313_39 : List JE := (39, .ldc2_w 339, 3, [8115], (-9223372036854775808)) :: (42, .lreturn, 1, [], 0) :: c313_43
def c313_0 : List JE := (0, .aload_n 0, 1, [], 0) :: (1, .iload_n 1, 1, [], 0) :: (2, .invokevirtual 216, 3, [5, 1, 261, 12, 8046, 8048, 78, 1008], 0) :: (5, .ifCond .eq 34, 3, [39], 0) :: (8, .aload_n 0, 1, [], 0) :: (9, .iload_n 2, 1, [], 0) :: (10, .invokevirtual 152, 3, [5, 1, 245, 12, 7165, 7167, 57, 1008], 0) :: (13, .ifCond .eq 26, 3, [39], 0) :: (16, .aload_n 0, 1, [], 0) :: (17, .iload_n 3, 1, [], 0) :: (18, .invokevirtual 152, 3, [5, 1, 245, 12, 7165, 7167, 57, 1008], 0) :: (21, .ifCond .eq 18, 3, [39], 0) :: (24, .iload_n 2, 1, [], 0) :: (25, .iload_n 3, 1, [], 0) :: (26, .if_icmp .eq 13, 3, [39], 0) :: (29, .iload 4, 2, [], 0) :: (31, .iconst 0, 1, [], 0) :: (32, .iconst 1, 1, [], 0) :: (33, .invokestatic 145, 3, [0, 3, 242, 7158, 7159, 1008], 0) :: (36, .ifCond .ne 7, 3, [43], 0) :: c313_39
/-! 314 SueOrSettleModel.first(I)I -/
def c314_63 : List JE := (63, .iload_n 2, 1, [], 0) :: (64, .ireturn, 1, [], 0) :: []
def c314_57 : List JE := (57, .iinc 3 1, 3, [], 0) :: (60, .goto (-29), 3, [31], 0) :: c314_63
def c314_31 : List JE := (31, .iload_n 3, 1, [], 0) :: (32, .aload_n 0, 1, [], 0) :: (33, .getfield 142, 3, [12, 1, 6196, 0], 0) :: (36, .if_icmp .ge 27, 3, [63], 0) :: (39, .aload_n 0, 1, [], 0) :: (40, .iload_n 1, 1, [], 0) :: (41, .iload_n 3, 1, [], 0) :: (42, .invokevirtual 375, 3, [5, 2, 310, 12, 8193, 8195, 101, 1008], 0) :: (45, .aload_n 0, 1, [], 0) :: (46, .iload_n 1, 1, [], 0) :: (47, .iload_n 2, 1, [], 0) :: (48, .invokevirtual 375, 3, [5, 2, 310, 12, 8193, 8195, 101, 1008], 0) :: (51, .lcmp, 1, [], 0) :: (52, .ifCond .le 5, 3, [57], 0) :: (55, .iload_n 3, 1, [], 0) :: (56, .istore_n 2, 1, [], 0) :: c314_57
def c314_27 : List JE := (27, .iconst 0, 1, [], 0) :: (28, .istore_n 2, 1, [], 0) :: (29, .iconst 1, 1, [], 0) :: (30, .istore_n 3, 1, [], 0) :: c314_31
def c314_17 : List JE := (17, .aload_n 0, 1, [], 0) :: (18, .invokevirtual 201, 3, [5, 0, 256, 12, 7211, 7213, 64, 1008], 0) :: (21, .ifCond .ne 6, 3, [27], 0) :: (24, .bipush (-4), 2, [], 0) :: (26, .ireturn, 1, [], 0) :: c314_27
def c314_15 : List JE := (15, .iconst (-1), 1, [], 0) :: (16, .ireturn, 1, [], 0) :: c314_17
def c314_0 : List JE := (0, .aload_n 0, 1, [], 0) :: (1, .iload_n 1, 1, [], 0) :: (2, .invokevirtual 216, 3, [5, 1, 261, 12, 8046, 8048, 78, 1008], 0) :: (5, .ifCond .eq 10, 3, [15], 0) :: (8, .aload_n 0, 1, [], 0) :: (9, .getfield 142, 3, [12, 1, 6196, 0], 0) :: (12, .ifCond .ne 5, 3, [17], 0) :: c314_15
/-! 315 SueOrSettleModel.firstChoice(I)I -/
def c315_35 : List JE := (35, .iconst (-1), 1, [], 0) :: (36, .ireturn, 1, [], 0) :: []
def c315_29 : List JE := (29, .iinc 2 1, 3, [], 0) :: (32, .goto (-30), 3, [2], 0) :: c315_35
def c315_2 : List JE := (2, .iload_n 2, 1, [], 0) :: (3, .aload_n 0, 1, [], 0) :: (4, .getfield 28, 3, [12, 10, 6205, 0], 0) :: (7, .iload_n 1, 1, [], 0) :: (8, .iaload, 1, [], 0) :: (9, .if_icmp .ge 26, 3, [35], 0) :: (12, .aload_n 0, 1, [], 0) :: (13, .getfield 31, 3, [12, 11, 6206, 0], 0) :: (16, .bipush 100, 2, [], 0) :: (18, .iload_n 1, 1, [], 0) :: (19, .imul, 1, [], 0) :: (20, .iload_n 2, 1, [], 0) :: (21, .iadd, 1, [], 0) :: (22, .baload, 1, [22], 0) :: (23, .iconst 1, 1, [], 0) :: (24, .if_icmp .ne 5, 3, [29], 0) :: (27, .iload_n 2, 1, [], 0) :: (28, .ireturn, 1, [], 0) :: c315_29
def c315_0 : List JE := (0, .iconst 0, 1, [], 0) :: (1, .istore_n 2, 1, [], 0) :: c315_2
/-! 316 SueOrSettleModel.firstWay(I)I -/
def c316_22 : List JE := (22, .aload_n 0, 1, [], 0) :: (23, .iload_n 1, 1, [], 0) :: (24, .iconst 0, 1, [], 0) :: (25, .iconst 0, 1, [], 0) :: (26, .iconst 0, 1, [], 0) :: (27, .invokevirtual 341, 3, [5, 4, 298, 12, 8116, 8118, 88, 1008], 0) :: (30, .pop2, 1, [], 0) :: (31, .aload_n 0, 1, [], 0) :: (32, .getfield 80, 3, [12, 35, 6230, 0], 0) :: (35, .iload_n 2, 1, [], 0) :: (36, .baload, 1, [22], 0) :: (37, .ireturn, 1, [], 0) :: []
def c316_12 : List JE := (12, .aload_n 0, 1, [], 0) :: (13, .invokevirtual 201, 3, [5, 0, 256, 12, 7211, 7213, 64, 1008], 0) :: (16, .ifCond .ne 6, 3, [22], 0) :: (19, .bipush (-4), 2, [], 0) :: (21, .ireturn, 1, [], 0) :: c316_22
def c316_0 : List JE := (0, .aload_n 0, 1, [], 0) :: (1, .iload_n 1, 1, [], 0) :: (2, .invokevirtual 378, 3, [5, 1, 315, 12, 8221, 8223, 105, 1008], 0) :: (5, .istore_n 2, 1, [], 0) :: (6, .iload_n 2, 1, [], 0) :: (7, .ifCond .ge 5, 3, [12], 0) :: (10, .iconst (-1), 1, [], 0) :: (11, .ireturn, 1, [], 0) :: c316_12
/-! 317 SueOrSettleModel.valueAt(II)I -/
def c317_32 : List JE := (32, .ireturn, 1, [], 0) :: []
def c317_26 : List JE := (26, .aload_n 0, 1, [], 0) :: (27, .getfield 41, 3, [12, 14, 6209, 0], 0) :: (30, .iload_n 2, 1, [], 0) :: (31, .iaload, 1, [], 0) :: c317_32
def c317_13 : List JE := (13, .iload_n 1, 1, [], 0) :: (14, .ifCond .ne 12, 3, [26], 0) :: (17, .aload_n 0, 1, [], 0) :: (18, .getfield 35, 3, [12, 12, 6207, 0], 0) :: (21, .iload_n 2, 1, [], 0) :: (22, .iaload, 1, [], 0) :: (23, .goto 9, 3, [32], 0) :: c317_26
def c317_0 : List JE := (0, .iload_n 1, 1, [], 0) :: (1, .ifCond .ge 12, 3, [13], 0) :: (4, .aload_n 0, 1, [], 0) :: (5, .getfield 18, 3, [12, 4, 6199, 0], 0) :: (8, .iload_n 2, 1, [], 0) :: (9, .iaload, 1, [], 0) :: (10, .goto 22, 3, [32], 0) :: c317_13
/-! 318 SueOrSettleModel.edgeFor(IIII)I -/
def c318_167 : List JE := (167, .aload_n 0, 1, [], 0) :: (168, .iload_n 2, 1, [], 0) :: (169, .iload_n 3, 1, [], 0) :: (170, .iload 6, 2, [], 0) :: (172, .invokevirtual 279, 3, [5, 3, 280, 12, 8071, 8073, 83, 1008], 0) :: (175, .iload 9, 2, [], 0) :: (177, .ireturn, 1, [], 0) :: []
def c318_161 : List JE := (161, .iinc 10 1, 3, [], 0) :: (164, .goto (-87), 3, [77], 0) :: c318_167
def c318_150 : List JE := (150, .iload 12, 2, [], 0) :: (152, .iload 5, 2, [], 0) :: (154, .if_icmp .eq 7, 3, [161], 0) :: (157, .iload 10, 2, [], 0) :: (159, .istore 9, 2, [], 0) :: c318_161
def c318_125 : List JE := (125, .aload_n 0, 1, [], 0) :: (126, .iload_n 2, 1, [], 0) :: (127, .iload_n 3, 1, [], 0) :: (128, .iload 11, 2, [], 0) :: (130, .invokevirtual 279, 3, [5, 3, 280, 12, 8071, 8073, 83, 1008], 0) :: (133, .aload_n 0, 1, [], 0) :: (134, .iload_n 1, 1, [], 0) :: (135, .invokevirtual 381, 3, [5, 1, 316, 12, 8217, 8219, 104, 1008], 0) :: (138, .istore 12, 2, [], 0) :: (140, .iload 12, 2, [], 0) :: (142, .bipush (-4), 2, [], 0) :: (144, .if_icmp .ne 6, 3, [150], 0) :: (147, .goto 20, 3, [167], 0) :: c318_150
def c318_108 : List JE := (108, .istore 11, 2, [], 0) :: (110, .iload 11, 2, [], 0) :: (112, .iload 7, 2, [], 0) :: (114, .iload 8, 2, [], 0) :: (116, .invokestatic 145, 3, [0, 3, 242, 7158, 7159, 1008], 0) :: (119, .ifCond .ne 6, 3, [125], 0) :: (122, .goto 45, 3, [167], 0) :: c318_125
def c318_103 : List JE := (103, .iload 6, 2, [], 0) :: (105, .iload 10, 2, [], 0) :: (107, .isub, 1, [], 0) :: c318_108
def c318_77 : List JE := (77, .iload 10, 2, [], 0) :: (79, .bipush 40, 2, [], 0) :: (81, .if_icmp .gt 86, 3, [167], 0) :: (84, .iload 9, 2, [], 0) :: (86, .ifCond .ge 81, 3, [167], 0) :: (89, .iload 4, 2, [], 0) :: (91, .iconst 1, 1, [], 0) :: (92, .if_icmp .ne 11, 3, [103], 0) :: (95, .iload 6, 2, [], 0) :: (97, .iload 10, 2, [], 0) :: (99, .iadd, 1, [], 0) :: (100, .goto 8, 3, [108], 0) :: c318_103
def c318_68 : List JE := (68, .istore 8, 2, [], 0) :: (70, .bipush (-2), 2, [], 0) :: (72, .istore 9, 2, [], 0) :: (74, .iconst 1, 1, [], 0) :: (75, .istore 10, 2, [], 0) :: c318_77
def c318_66 : List JE := (66, .bipush 99, 2, [], 0) :: c318_68
def c318_54 : List JE := (54, .istore 7, 2, [], 0) :: (56, .iload_n 2, 1, [], 0) :: (57, .ifCond .ne 9, 3, [66], 0) :: (60, .sipush 999, 3, [], 0) :: (63, .goto 5, 3, [68], 0) :: c318_66
def c318_53 : List JE := (53, .iconst 0, 1, [], 0) :: c318_54
def c318_43 : List JE := (43, .iload_n 2, 1, [], 0) :: (44, .ifCond .ne 9, 3, [53], 0) :: (47, .sipush (-999), 3, [], 0) :: (50, .goto 4, 3, [54], 0) :: c318_53
def c318_27 : List JE := (27, .aload_n 0, 1, [], 0) :: (28, .iload_n 2, 1, [], 0) :: (29, .iload_n 3, 1, [], 0) :: (30, .invokevirtual 384, 3, [5, 2, 317, 12, 8225, 8227, 106, 1008], 0) :: (33, .istore 6, 2, [], 0) :: (35, .iload_n 2, 1, [], 0) :: (36, .ifCond .ge 7, 3, [43], 0) :: (39, .iconst 1, 1, [], 0) :: (40, .goto 14, 3, [54], 0) :: c318_43
def c318_26 : List JE := (26, .ireturn, 1, [], 0) :: c318_27
def c318_24 : List JE := (24, .bipush (-2), 2, [], 0) :: c318_26
def c318_0 : List JE := (0, .aload_n 0, 1, [], 0) :: (1, .iload_n 1, 1, [], 0) :: (2, .invokevirtual 381, 3, [5, 1, 316, 12, 8217, 8219, 104, 1008], 0) :: (5, .istore 5, 2, [], 0) :: (7, .iload 5, 2, [], 0) :: (9, .ifCond .ge 18, 3, [27], 0) :: (12, .iload 5, 2, [], 0) :: (14, .bipush (-4), 2, [], 0) :: (16, .if_icmp .ne 8, 3, [24], 0) :: (19, .bipush (-4), 2, [], 0) :: (21, .goto 5, 3, [26], 0) :: c318_24
/-! 319 SueOrSettleModel.edge(III)I -/
def c319_57 : List JE := (57, .aload_n 0, 1, [], 0) :: (58, .iload_n 1, 1, [], 0) :: (59, .iconst (-1), 1, [], 0) :: (60, .bipush 9, 2, [], 0) :: (62, .iload_n 2, 1, [], 0) :: (63, .bipush 100, 2, [], 0) :: (65, .idiv, 1, [], 0) :: (66, .imul, 1, [], 0) :: (67, .iconst 3, 1, [], 0) :: (68, .iload_n 2, 1, [], 0) :: (69, .bipush 10, 2, [], 0) :: (71, .idiv, 1, [], 0) :: (72, .bipush 10, 2, [], 0) :: (74, .irem, 1, [], 0) :: (75, .imul, 1, [], 0) :: (76, .iadd, 1, [], 0) :: (77, .iload_n 2, 1, [], 0) :: (78, .bipush 10, 2, [], 0) :: (80, .irem, 1, [], 0) :: (81, .iadd, 1, [], 0) :: (82, .iload_n 3, 1, [], 0) :: (83, .invokevirtual 387, 3, [5, 4, 318, 12, 8213, 8215, 103, 1008], 0) :: (86, .ireturn, 1, [], 0) :: []
def c319_45 : List JE := (45, .aload_n 0, 1, [], 0) :: (46, .invokevirtual 185, 3, [5, 0, 253, 12, 7189, 7191, 61, 1008], 0) :: (49, .lconst 0, 1, [], 0) :: (50, .lcmp, 1, [], 0) :: (51, .ifCond .ge 6, 3, [57], 0) :: (54, .bipush (-4), 2, [], 0) :: (56, .ireturn, 1, [], 0) :: c319_57
def c319_43 : List JE := (43, .iconst (-1), 1, [], 0) :: (44, .ireturn, 1, [], 0) :: c319_45
def c319_0 : List JE := (0, .aload_n 0, 1, [], 0) :: (1, .iload_n 1, 1, [], 0) :: (2, .invokevirtual 216, 3, [5, 1, 261, 12, 8046, 8048, 78, 1008], 0) :: (5, .ifCond .eq 38, 3, [43], 0) :: (8, .iload_n 2, 1, [], 0) :: (9, .ifCond .lt 34, 3, [43], 0) :: (12, .aload_n 0, 1, [], 0) :: (13, .iload_n 2, 1, [], 0) :: (14, .bipush 100, 2, [], 0) :: (16, .idiv, 1, [], 0) :: (17, .iload_n 2, 1, [], 0) :: (18, .bipush 10, 2, [], 0) :: (20, .idiv, 1, [], 0) :: (21, .bipush 10, 2, [], 0) :: (23, .irem, 1, [], 0) :: (24, .iload_n 2, 1, [], 0) :: (25, .bipush 10, 2, [], 0) :: (27, .irem, 1, [], 0) :: (28, .invokevirtual 166, 3, [5, 3, 249, 12, 7173, 7175, 58, 1008], 0) :: (31, .ifCond .eq 12, 3, [43], 0) :: (34, .iload_n 3, 1, [], 0) :: (35, .iconst 0, 1, [], 0) :: (36, .iconst 1, 1, [], 0) :: (37, .invokestatic 145, 3, [0, 3, 242, 7158, 7159, 1008], 0) :: (40, .ifCond .ne 5, 3, [45], 0) :: c319_43
/-! 320 SueOrSettleModel.edgeOf(IIII)I -/
def c320_73 : List JE := (73, .ireturn, 1, [], 0) :: []
def c320_55 : List JE := (55, .aload_n 0, 1, [], 0) :: (56, .iload_n 1, 1, [], 0) :: (57, .iconst 1, 1, [], 0) :: (58, .iconst 4, 1, [], 0) :: (59, .bipush 100, 2, [], 0) :: (61, .iload_n 1, 1, [], 0) :: (62, .imul, 1, [], 0) :: (63, .iload_n 2, 1, [], 0) :: (64, .iadd, 1, [], 0) :: (65, .imul, 1, [], 0) :: (66, .iload_n 3, 1, [], 0) :: (67, .iadd, 1, [], 0) :: (68, .iload 4, 2, [], 0) :: (70, .invokevirtual 387, 3, [5, 4, 318, 12, 8213, 8215, 103, 1008], 0) :: c320_73
def c320_34 : List JE := (34, .iload_n 3, 1, [], 0) :: (35, .ifCond .ge 20, 3, [55], 0) :: (38, .aload_n 0, 1, [], 0) :: (39, .iload_n 1, 1, [], 0) :: (40, .iconst 0, 1, [], 0) :: (41, .bipush 100, 2, [], 0) :: (43, .iload_n 1, 1, [], 0) :: (44, .imul, 1, [], 0) :: (45, .iload_n 2, 1, [], 0) :: (46, .iadd, 1, [], 0) :: (47, .iload 4, 2, [], 0) :: (49, .invokevirtual 387, 3, [5, 4, 318, 12, 8213, 8215, 103, 1008], 0) :: (52, .goto 21, 3, [73], 0) :: c320_55
def c320_22 : List JE := (22, .aload_n 0, 1, [], 0) :: (23, .invokevirtual 185, 3, [5, 0, 253, 12, 7189, 7191, 61, 1008], 0) :: (26, .lconst 0, 1, [], 0) :: (27, .lcmp, 1, [], 0) :: (28, .ifCond .ge 6, 3, [34], 0) :: (31, .bipush (-4), 2, [], 0) :: (33, .ireturn, 1, [], 0) :: c320_34
def c320_20 : List JE := (20, .iconst (-1), 1, [], 0) :: (21, .ireturn, 1, [], 0) :: c320_22
def c320_0 : List JE := (0, .aload_n 0, 1, [], 0) :: (1, .iload_n 1, 1, [], 0) :: (2, .iload_n 2, 1, [], 0) :: (3, .iload_n 3, 1, [], 0) :: (4, .invokevirtual 276, 3, [5, 3, 278, 12, 8063, 8065, 81, 1008], 0) :: (7, .ifCond .eq 13, 3, [20], 0) :: (10, .iload 4, 2, [], 0) :: (12, .iconst 0, 1, [], 0) :: (13, .iconst 1, 1, [], 0) :: (14, .invokestatic 145, 3, [0, 3, 242, 7158, 7159, 1008], 0) :: (17, .ifCond .ne 5, 3, [22], 0) :: c320_20
/-! 321 SueOrSettleModel.most(I)I -/
def c321_121 : List JE := (121, .iload_n 2, 1, [], 0) :: (122, .ireturn, 1, [], 0) :: []
def c321_115 : List JE := (115, .iinc 4 1, 3, [], 0) :: (118, .goto (-88), 3, [30], 0) :: c321_121
def c321_109 : List JE := (109, .iinc 5 1, 3, [], 0) :: (112, .goto (-50), 3, [62], 0) :: c321_115
def c321_103 : List JE := (103, .iload 4, 2, [], 0) :: (105, .istore_n 2, 1, [], 0) :: (106, .iload 6, 2, [], 0) :: (108, .istore_n 3, 1, [], 0) :: c321_109
def c321_62 : List JE := (62, .iload 5, 2, [], 0) :: (64, .iconst 2, 1, [], 0) :: (65, .if_icmp .ge 50, 3, [115], 0) :: (68, .aload_n 0, 1, [], 0) :: (69, .iload_n 1, 1, [], 0) :: (70, .iconst 0, 1, [], 0) :: (71, .bipush 100, 2, [], 0) :: (73, .iload_n 1, 1, [], 0) :: (74, .imul, 1, [], 0) :: (75, .iload 4, 2, [], 0) :: (77, .iadd, 1, [], 0) :: (78, .iload 5, 2, [], 0) :: (80, .invokevirtual 387, 3, [5, 4, 318, 12, 8213, 8215, 103, 1008], 0) :: (83, .istore 6, 2, [], 0) :: (85, .iload 6, 2, [], 0) :: (87, .ifCond .lt 22, 3, [109], 0) :: (90, .iload_n 2, 1, [], 0) :: (91, .ifCond .lt 12, 3, [103], 0) :: (94, .iload 6, 2, [], 0) :: (96, .iload_n 3, 1, [], 0) :: (97, .if_icmp .lt 6, 3, [103], 0) :: (100, .goto 9, 3, [109], 0) :: c321_103
def c321_59 : List JE := (59, .iconst 0, 1, [], 0) :: (60, .istore 5, 2, [], 0) :: c321_62
def c321_30 : List JE := (30, .iload 4, 2, [], 0) :: (32, .aload_n 0, 1, [], 0) :: (33, .getfield 28, 3, [12, 10, 6205, 0], 0) :: (36, .iload_n 1, 1, [], 0) :: (37, .iaload, 1, [], 0) :: (38, .if_icmp .ge 83, 3, [121], 0) :: (41, .aload_n 0, 1, [], 0) :: (42, .getfield 31, 3, [12, 11, 6206, 0], 0) :: (45, .bipush 100, 2, [], 0) :: (47, .iload_n 1, 1, [], 0) :: (48, .imul, 1, [], 0) :: (49, .iload 4, 2, [], 0) :: (51, .iadd, 1, [], 0) :: (52, .baload, 1, [22], 0) :: (53, .ifCond .eq 6, 3, [59], 0) :: (56, .goto 59, 3, [115], 0) :: c321_59
def c321_22 : List JE := (22, .bipush (-2), 2, [], 0) :: (24, .istore_n 2, 1, [], 0) :: (25, .iconst 0, 1, [], 0) :: (26, .istore_n 3, 1, [], 0) :: (27, .iconst 0, 1, [], 0) :: (28, .istore 4, 2, [], 0) :: c321_30
def c321_10 : List JE := (10, .aload_n 0, 1, [], 0) :: (11, .invokevirtual 185, 3, [5, 0, 253, 12, 7189, 7191, 61, 1008], 0) :: (14, .lconst 0, 1, [], 0) :: (15, .lcmp, 1, [], 0) :: (16, .ifCond .ge 6, 3, [22], 0) :: (19, .bipush (-4), 2, [], 0) :: (21, .ireturn, 1, [], 0) :: c321_22
def c321_0 : List JE := (0, .aload_n 0, 1, [], 0) :: (1, .iload_n 1, 1, [], 0) :: (2, .invokevirtual 216, 3, [5, 1, 261, 12, 8046, 8048, 78, 1008], 0) :: (5, .ifCond .ne 5, 3, [10], 0) :: (8, .iconst (-1), 1, [], 0) :: (9, .ireturn, 1, [], 0) :: c321_10
/-! 322 SueOrSettleModel.isDoubt(III)Z -/
def c322_63 : List JE := (63, .ireturn, 1, [1], 0) :: []
def c322_62 : List JE := (62, .iconst 0, 1, [], 0) :: c322_63
def c322_0 : List JE := (0, .aload_n 0, 1, [], 0) :: (1, .iload_n 1, 1, [], 0) :: (2, .invokevirtual 216, 3, [5, 1, 261, 12, 8046, 8048, 78, 1008], 0) :: (5, .ifCond .eq 57, 3, [62], 0) :: (8, .aload_n 0, 1, [], 0) :: (9, .iload_n 2, 1, [], 0) :: (10, .invokevirtual 152, 3, [5, 1, 245, 12, 7165, 7167, 57, 1008], 0) :: (13, .ifCond .eq 49, 3, [62], 0) :: (16, .aload_n 0, 1, [], 0) :: (17, .getfield 15, 3, [12, 3, 6198, 0], 0) :: (20, .iload_n 2, 1, [], 0) :: (21, .iaload, 1, [], 0) :: (22, .ifCond .ge 40, 3, [62], 0) :: (25, .iload_n 3, 1, [], 0) :: (26, .ifCond .lt 36, 3, [62], 0) :: (29, .iload_n 3, 1, [], 0) :: (30, .bipush 100, 2, [], 0) :: (32, .idiv, 1, [], 0) :: (33, .iconst 1, 1, [], 0) :: (34, .bipush 99, 2, [], 0) :: (36, .invokestatic 145, 3, [0, 3, 242, 7158, 7159, 1008], 0) :: (39, .ifCond .eq 23, 3, [62], 0) :: (42, .iload_n 3, 1, [], 0) :: (43, .bipush 100, 2, [], 0) :: (45, .irem, 1, [], 0) :: (46, .iload_n 3, 1, [], 0) :: (47, .bipush 100, 2, [], 0) :: (49, .idiv, 1, [], 0) :: (50, .bipush 99, 2, [], 0) :: (52, .invokestatic 145, 3, [0, 3, 242, 7158, 7159, 1008], 0) :: (55, .ifCond .eq 7, 3, [62], 0) :: (58, .iconst 1, 1, [], 0) :: (59, .goto 4, 3, [63], 0) :: c322_62
/-! 323 SueOrSettleModel.canDoubt(III)Z -/
def c323_61 : List JE := (61, .aload_n 0, 1, [], 0) :: (62, .getfield 18, 3, [12, 4, 6199, 0], 0) :: (65, .bipush 9, 2, [], 0) :: (67, .iload_n 1, 1, [], 0) :: (68, .imul, 1, [], 0) :: (69, .iload 4, 2, [], 0) :: (71, .iastore, 1, [], 0) :: (72, .iload 5, 2, [], 0) :: (74, .ireturn, 1, [1], 0) :: []
def c323_53 : List JE := (53, .istore 5, 2, [], 0) :: (55, .iinc 6 1, 3, [], 0) :: (58, .goto (-41), 3, [17], 0) :: c323_61
def c323_52 : List JE := (52, .iconst 0, 1, [], 0) :: c323_53
def c323_17 : List JE := (17, .iload 6, 2, [], 0) :: (19, .iload_n 3, 1, [], 0) :: (20, .if_icmp .gt 41, 3, [61], 0) :: (23, .iload 5, 2, [], 0) :: (25, .ifCond .eq 36, 3, [61], 0) :: (28, .aload_n 0, 1, [], 0) :: (29, .getfield 18, 3, [12, 4, 6199, 0], 0) :: (32, .bipush 9, 2, [], 0) :: (34, .iload_n 1, 1, [], 0) :: (35, .imul, 1, [], 0) :: (36, .iload 6, 2, [], 0) :: (38, .iastore, 1, [], 0) :: (39, .aload_n 0, 1, [], 0) :: (40, .invokevirtual 185, 3, [5, 0, 253, 12, 7189, 7191, 61, 1008], 0) :: (43, .lconst 0, 1, [], 0) :: (44, .lcmp, 1, [], 0) :: (45, .ifCond .le 7, 3, [52], 0) :: (48, .iconst 1, 1, [], 0) :: (49, .goto 4, 3, [53], 0) :: c323_52
def c323_0 : List JE := (0, .aload_n 0, 1, [], 0) :: (1, .getfield 18, 3, [12, 4, 6199, 0], 0) :: (4, .bipush 9, 2, [], 0) :: (6, .iload_n 1, 1, [], 0) :: (7, .imul, 1, [], 0) :: (8, .iaload, 1, [], 0) :: (9, .istore 4, 2, [], 0) :: (11, .iconst 1, 1, [], 0) :: (12, .istore 5, 2, [], 0) :: (14, .iload_n 2, 1, [], 0) :: (15, .istore 6, 2, [], 0) :: c323_17
/-! 324 SueOrSettleModel.holdOf(IIII)I -/
def c324_76 : List JE := (76, .aload_n 0, 1, [], 0) :: (77, .getfield 18, 3, [12, 4, 6199, 0], 0) :: (80, .bipush 9, 2, [], 0) :: (82, .iload_n 2, 1, [], 0) :: (83, .imul, 1, [], 0) :: (84, .iload 5, 2, [], 0) :: (86, .iastore, 1, [], 0) :: (87, .iload 6, 2, [], 0) :: (89, .ireturn, 1, [], 0) :: []
def c324_67 : List JE := (67, .iadd, 1, [], 0) :: (68, .istore 6, 2, [], 0) :: (70, .iinc 7 1, 3, [], 0) :: (73, .goto (-56), 3, [17], 0) :: c324_76
def c324_66 : List JE := (66, .iconst 0, 1, [], 0) :: c324_67
def c324_17 : List JE := (17, .iload 7, 2, [], 0) :: (19, .iload 4, 2, [], 0) :: (21, .if_icmp .gt 55, 3, [76], 0) :: (24, .aload_n 0, 1, [], 0) :: (25, .getfield 18, 3, [12, 4, 6199, 0], 0) :: (28, .bipush 9, 2, [], 0) :: (30, .iload_n 2, 1, [], 0) :: (31, .imul, 1, [], 0) :: (32, .iload 7, 2, [], 0) :: (34, .iastore, 1, [], 0) :: (35, .aload_n 0, 1, [], 0) :: (36, .invokevirtual 201, 3, [5, 0, 256, 12, 7211, 7213, 64, 1008], 0) :: (39, .pop, 1, [], 0) :: (40, .iload 6, 2, [], 0) :: (42, .aload_n 0, 1, [], 0) :: (43, .iload_n 1, 1, [], 0) :: (44, .iconst 0, 1, [], 0) :: (45, .iconst 0, 1, [], 0) :: (46, .iconst 1, 1, [], 0) :: (47, .invokevirtual 341, 3, [5, 4, 298, 12, 8116, 8118, 88, 1008], 0) :: (50, .aload_n 0, 1, [], 0) :: (51, .iload_n 1, 1, [], 0) :: (52, .iconst 0, 1, [], 0) :: (53, .iconst 0, 1, [], 0) :: (54, .iconst 0, 1, [], 0) :: (55, .invokevirtual 341, 3, [5, 4, 298, 12, 8116, 8118, 88, 1008], 0) :: (58, .lcmp, 1, [], 0) :: (59, .ifCond .ne 7, 3, [66], 0) :: (62, .iconst 1, 1, [], 0) :: (63, .goto 4, 3, [67], 0) :: c324_66
def c324_0 : List JE := (0, .aload_n 0, 1, [], 0) :: (1, .getfield 18, 3, [12, 4, 6199, 0], 0) :: (4, .bipush 9, 2, [], 0) :: (6, .iload_n 2, 1, [], 0) :: (7, .imul, 1, [], 0) :: (8, .iaload, 1, [], 0) :: (9, .istore 5, 2, [], 0) :: (11, .iconst 0, 1, [], 0) :: (12, .istore 6, 2, [], 0) :: (14, .iload_n 3, 1, [], 0) :: (15, .istore 7, 2, [], 0) :: c324_17
/-! 325 SueOrSettleModel.isSamePlan(III)Z -/
def c325_69 : List JE := (69, .iconst 1, 1, [], 0) :: (70, .ireturn, 1, [1], 0) :: []
def c325_63 : List JE := (63, .iinc 4 1, 3, [], 0) :: (66, .goto (-63), 3, [3], 0) :: c325_69
def c325_3 : List JE := (3, .iload 4, 2, [], 0) :: (5, .aload_n 0, 1, [], 0) :: (6, .getfield 28, 3, [12, 10, 6205, 0], 0) :: (9, .iload_n 1, 1, [], 0) :: (10, .iaload, 1, [], 0) :: (11, .if_icmp .ge 58, 3, [69], 0) :: (14, .aload_n 0, 1, [], 0) :: (15, .getfield 31, 3, [12, 11, 6206, 0], 0) :: (18, .bipush 100, 2, [], 0) :: (20, .iload_n 1, 1, [], 0) :: (21, .imul, 1, [], 0) :: (22, .iload 4, 2, [], 0) :: (24, .iadd, 1, [], 0) :: (25, .baload, 1, [22], 0) :: (26, .iconst 1, 1, [], 0) :: (27, .if_icmp .ne 36, 3, [63], 0) :: (30, .aload_n 0, 1, [], 0) :: (31, .getfield 83, 3, [12, 43, 6238, 0], 0) :: (34, .bipush 100, 2, [], 0) :: (36, .iload_n 2, 1, [], 0) :: (37, .iconst 1, 1, [], 0) :: (38, .isub, 1, [], 0) :: (39, .imul, 1, [], 0) :: (40, .iload 4, 2, [], 0) :: (42, .iadd, 1, [], 0) :: (43, .baload, 1, [22], 0) :: (44, .aload_n 0, 1, [], 0) :: (45, .getfield 83, 3, [12, 43, 6238, 0], 0) :: (48, .bipush 100, 2, [], 0) :: (50, .iload_n 3, 1, [], 0) :: (51, .iconst 1, 1, [], 0) :: (52, .isub, 1, [], 0) :: (53, .imul, 1, [], 0) :: (54, .iload 4, 2, [], 0) :: (56, .iadd, 1, [], 0) :: (57, .baload, 1, [22], 0) :: (58, .if_icmp .eq 5, 3, [63], 0) :: (61, .iconst 0, 1, [], 0) :: (62, .ireturn, 1, [1], 0) :: c325_63
def c325_0 : List JE := (0, .iconst 0, 1, [], 0) :: (1, .istore 4, 2, [], 0) :: c325_3
/-! 326 SueOrSettleModel.steadyOf(IIII)I -/
def c326_249 : List JE := (249, .iload 7, 2, [], 0) :: (251, .ireturn, 1, [], 0) :: []
def c326_243 : List JE := (243, .iinc 8 1, 3, [], 0) :: (246, .goto (-57), 3, [189], 0) :: c326_249
def c326_189 : List JE := (189, .iload 8, 2, [], 0) :: (191, .aload_n 0, 1, [], 0) :: (192, .getfield 28, 3, [12, 10, 6205, 0], 0) :: (195, .iload_n 1, 1, [], 0) :: (196, .iaload, 1, [], 0) :: (197, .if_icmp .ge 52, 3, [249], 0) :: (200, .aload_n 0, 1, [], 0) :: (201, .getfield 31, 3, [12, 11, 6206, 0], 0) :: (204, .bipush 100, 2, [], 0) :: (206, .iload_n 1, 1, [], 0) :: (207, .imul, 1, [], 0) :: (208, .iload 8, 2, [], 0) :: (210, .iadd, 1, [], 0) :: (211, .baload, 1, [22], 0) :: (212, .iconst 1, 1, [], 0) :: (213, .if_icmp .ne 30, 3, [243], 0) :: (216, .aload_n 0, 1, [], 0) :: (217, .getfield 44, 3, [12, 15, 6210, 0], 0) :: (220, .bipush 100, 2, [], 0) :: (222, .iload_n 1, 1, [], 0) :: (223, .imul, 1, [], 0) :: (224, .iload 8, 2, [], 0) :: (226, .iadd, 1, [], 0) :: (227, .aload_n 0, 1, [], 0) :: (228, .getfield 83, 3, [12, 43, 6238, 0], 0) :: (231, .bipush 100, 2, [], 0) :: (233, .iload 6, 2, [], 0) :: (235, .iconst 1, 1, [], 0) :: (236, .isub, 1, [], 0) :: (237, .imul, 1, [], 0) :: (238, .iload 8, 2, [], 0) :: (240, .iadd, 1, [], 0) :: (241, .baload, 1, [22], 0) :: (242, .bastore, 1, [22], 0) :: c326_243
def c326_186 : List JE := (186, .iconst 0, 1, [], 0) :: (187, .istore 8, 2, [], 0) :: c326_189
def c326_180 : List JE := (180, .iinc 8 1, 3, [], 0) :: (183, .goto (-69), 3, [114], 0) :: c326_186
def c326_172 : List JE := (172, .iload 8, 2, [], 0) :: (174, .istore 6, 2, [], 0) :: (176, .iload 9, 2, [], 0) :: (178, .istore 7, 2, [], 0) :: c326_180
def c326_162 : List JE := (162, .iload 9, 2, [], 0) :: (164, .iload 7, 2, [], 0) :: (166, .if_icmp .gt 6, 3, [172], 0) :: (169, .goto 11, 3, [180], 0) :: c326_172
def c326_153 : List JE := (153, .iadd, 1, [], 0) :: (154, .istore 9, 2, [], 0) :: (156, .iinc 10 1, 3, [], 0) :: (159, .goto (-32), 3, [127], 0) :: c326_162
def c326_152 : List JE := (152, .iconst 0, 1, [], 0) :: c326_153
def c326_127 : List JE := (127, .iload 10, 2, [], 0) :: (129, .iload 4, 2, [], 0) :: (131, .if_icmp .gt 31, 3, [162], 0) :: (134, .iload 9, 2, [], 0) :: (136, .aload_n 0, 1, [], 0) :: (137, .iload_n 1, 1, [], 0) :: (138, .iload 8, 2, [], 0) :: (140, .iload 10, 2, [], 0) :: (142, .invokevirtual 391, 3, [5, 3, 325, 12, 9017, 9019, 111, 1008], 0) :: (145, .ifCond .eq 7, 3, [152], 0) :: (148, .iconst 1, 1, [], 0) :: (149, .goto 4, 3, [153], 0) :: c326_152
def c326_114 : List JE := (114, .iload 8, 2, [], 0) :: (116, .iload 4, 2, [], 0) :: (118, .if_icmp .gt 68, 3, [186], 0) :: (121, .iconst 0, 1, [], 0) :: (122, .istore 9, 2, [], 0) :: (124, .iload_n 3, 1, [], 0) :: (125, .istore 10, 2, [], 0) :: c326_127
def c326_94 : List JE := (94, .aload_n 0, 1, [], 0) :: (95, .getfield 18, 3, [12, 4, 6199, 0], 0) :: (98, .bipush 9, 2, [], 0) :: (100, .iload_n 2, 1, [], 0) :: (101, .imul, 1, [], 0) :: (102, .iload 5, 2, [], 0) :: (104, .iastore, 1, [], 0) :: (105, .iload_n 3, 1, [], 0) :: (106, .istore 6, 2, [], 0) :: (108, .iconst 0, 1, [], 0) :: (109, .istore 7, 2, [], 0) :: (111, .iload_n 3, 1, [], 0) :: (112, .istore 8, 2, [], 0) :: c326_114
def c326_88 : List JE := (88, .iinc 6 1, 3, [], 0) :: (91, .goto (-77), 3, [14], 0) :: c326_94
def c326_49 : List JE := (49, .iload 7, 2, [], 0) :: (51, .aload_n 0, 1, [], 0) :: (52, .getfield 28, 3, [12, 10, 6205, 0], 0) :: (55, .iload_n 1, 1, [], 0) :: (56, .iaload, 1, [], 0) :: (57, .if_icmp .ge 31, 3, [88], 0) :: (60, .aload_n 0, 1, [], 0) :: (61, .getfield 83, 3, [12, 43, 6238, 0], 0) :: (64, .bipush 100, 2, [], 0) :: (66, .iload 6, 2, [], 0) :: (68, .iconst 1, 1, [], 0) :: (69, .isub, 1, [], 0) :: (70, .imul, 1, [], 0) :: (71, .iload 7, 2, [], 0) :: (73, .iadd, 1, [], 0) :: (74, .aload_n 0, 1, [], 0) :: (75, .getfield 80, 3, [12, 35, 6230, 0], 0) :: (78, .iload 7, 2, [], 0) :: (80, .baload, 1, [22], 0) :: (81, .bastore, 1, [22], 0) :: (82, .iinc 7 1, 3, [], 0) :: (85, .goto (-36), 3, [49], 0) :: c326_88
def c326_14 : List JE := (14, .iload 6, 2, [], 0) :: (16, .iload 4, 2, [], 0) :: (18, .if_icmp .gt 76, 3, [94], 0) :: (21, .aload_n 0, 1, [], 0) :: (22, .getfield 18, 3, [12, 4, 6199, 0], 0) :: (25, .bipush 9, 2, [], 0) :: (27, .iload_n 2, 1, [], 0) :: (28, .imul, 1, [], 0) :: (29, .iload 6, 2, [], 0) :: (31, .iastore, 1, [], 0) :: (32, .aload_n 0, 1, [], 0) :: (33, .invokevirtual 201, 3, [5, 0, 256, 12, 7211, 7213, 64, 1008], 0) :: (36, .pop, 1, [], 0) :: (37, .aload_n 0, 1, [], 0) :: (38, .iload_n 1, 1, [], 0) :: (39, .iconst 0, 1, [], 0) :: (40, .iconst 0, 1, [], 0) :: (41, .iconst 0, 1, [], 0) :: (42, .invokevirtual 341, 3, [5, 4, 298, 12, 8116, 8118, 88, 1008], 0) :: (45, .pop2, 1, [], 0) :: (46, .iconst 0, 1, [], 0) :: (47, .istore 7, 2, [], 0) :: c326_49
def c326_0 : List JE := (0, .aload_n 0, 1, [], 0) :: (1, .getfield 18, 3, [12, 4, 6199, 0], 0) :: (4, .bipush 9, 2, [], 0) :: (6, .iload_n 2, 1, [], 0) :: (7, .imul, 1, [], 0) :: (8, .iaload, 1, [], 0) :: (9, .istore 5, 2, [], 0) :: (11, .iload_n 3, 1, [], 0) :: (12, .istore 6, 2, [], 0) :: c326_14
/-! 327 SueOrSettleModel.doubt(IIII)I -/
def c327_77 : List JE := (77, .ireturn, 1, [], 0) :: []
def c327_63 : List JE := (63, .aload_n 0, 1, [], 0) :: (64, .iload_n 1, 1, [], 0) :: (65, .iload_n 2, 1, [], 0) :: (66, .iload_n 3, 1, [], 0) :: (67, .bipush 100, 2, [], 0) :: (69, .idiv, 1, [], 0) :: (70, .iload_n 3, 1, [], 0) :: (71, .bipush 100, 2, [], 0) :: (73, .irem, 1, [], 0) :: (74, .invokevirtual 403, 3, [5, 4, 326, 12, 9013, 9015, 110, 1008], 0) :: c327_77
def c327_41 : List JE := (41, .iload 4, 2, [], 0) :: (43, .ifCond .ne 20, 3, [63], 0) :: (46, .aload_n 0, 1, [], 0) :: (47, .iload_n 1, 1, [], 0) :: (48, .iload_n 2, 1, [], 0) :: (49, .iload_n 3, 1, [], 0) :: (50, .bipush 100, 2, [], 0) :: (52, .idiv, 1, [], 0) :: (53, .iload_n 3, 1, [], 0) :: (54, .bipush 100, 2, [], 0) :: (56, .irem, 1, [], 0) :: (57, .invokevirtual 400, 3, [5, 4, 324, 12, 9009, 9011, 109, 1008], 0) :: (60, .goto 17, 3, [77], 0) :: c327_63
def c327_22 : List JE := (22, .aload_n 0, 1, [], 0) :: (23, .iload_n 2, 1, [], 0) :: (24, .iload_n 3, 1, [], 0) :: (25, .bipush 100, 2, [], 0) :: (27, .idiv, 1, [], 0) :: (28, .iload_n 3, 1, [], 0) :: (29, .bipush 100, 2, [], 0) :: (31, .irem, 1, [], 0) :: (32, .invokevirtual 397, 3, [5, 3, 323, 12, 9005, 9007, 108, 1008], 0) :: (35, .ifCond .ne 6, 3, [41], 0) :: (38, .bipush (-4), 2, [], 0) :: (40, .ireturn, 1, [], 0) :: c327_41
def c327_20 : List JE := (20, .iconst (-1), 1, [], 0) :: (21, .ireturn, 1, [], 0) :: c327_22
def c327_0 : List JE := (0, .aload_n 0, 1, [], 0) :: (1, .iload_n 1, 1, [], 0) :: (2, .iload_n 2, 1, [], 0) :: (3, .iload_n 3, 1, [], 0) :: (4, .invokevirtual 394, 3, [5, 3, 322, 12, 9001, 9003, 107, 1008], 0) :: (7, .ifCond .eq 13, 3, [20], 0) :: (10, .iload 4, 2, [], 0) :: (12, .iconst 0, 1, [], 0) :: (13, .iconst 1, 1, [], 0) :: (14, .invokestatic 145, 3, [0, 3, 242, 7158, 7159, 1008], 0) :: (17, .ifCond .ne 5, 3, [22], 0) :: c327_20
/-! 328 SueOrSettleModel.isLess(JJJJ)Z -/
def c328_90 : List JE := (90, .lload 6, 2, [], 0) :: (92, .lload 14, 2, [], 0) :: (94, .lload_n 2, 1, [], 0) :: (95, .lload 12, 2, [], 0) :: (97, .invokestatic 411, 3, [0, 4, 328, 9025, 9026, 1008], 0) :: (100, .ireturn, 1, [1], 0) :: []
def c328_89 : List JE := (89, .ireturn, 1, [1], 0) :: c328_90
def c328_88 : List JE := (88, .iconst 0, 1, [], 0) :: c328_89
def c328_70 : List JE := (70, .lload 12, 2, [], 0) :: (72, .lconst 0, 1, [], 0) :: (73, .lcmp, 1, [], 0) :: (74, .ifCond .ne 14, 3, [88], 0) :: (77, .lload 14, 2, [], 0) :: (79, .lconst 0, 1, [], 0) :: (80, .lcmp, 1, [], 0) :: (81, .ifCond .eq 7, 3, [88], 0) :: (84, .iconst 1, 1, [], 0) :: (85, .goto 4, 3, [89], 0) :: c328_88
def c328_38 : List JE := (38, .lload_n 0, 1, [], 0) :: (39, .lload 8, 2, [], 0) :: (41, .lload_n 2, 1, [], 0) :: (42, .lmul, 1, [], 0) :: (43, .lsub, 1, [], 0) :: (44, .lstore 12, 2, [], 0) :: (46, .lload 4, 2, [], 0) :: (48, .lload 10, 2, [], 0) :: (50, .lload 6, 2, [], 0) :: (52, .lmul, 1, [], 0) :: (53, .lsub, 1, [], 0) :: (54, .lstore 14, 2, [], 0) :: (56, .lload 12, 2, [], 0) :: (58, .lconst 0, 1, [], 0) :: (59, .lcmp, 1, [], 0) :: (60, .ifCond .eq 10, 3, [70], 0) :: (63, .lload 14, 2, [], 0) :: (65, .lconst 0, 1, [], 0) :: (66, .lcmp, 1, [], 0) :: (67, .ifCond .ne 23, 3, [90], 0) :: c328_70
def c328_37 : List JE := (37, .ireturn, 1, [1], 0) :: c328_38
def c328_36 : List JE := (36, .iconst 0, 1, [], 0) :: c328_37
def c328_0 : List JE := (0, .lload_n 0, 1, [], 0) :: (1, .lload_n 2, 1, [], 0) :: (2, .invokestatic 406, 3, [0, 2, 378, 9028, 6019, 1010], 0) :: (5, .lstore 8, 2, [], 0) :: (7, .lload 4, 2, [], 0) :: (9, .lload 6, 2, [], 0) :: (11, .invokestatic 406, 3, [0, 2, 378, 9028, 6019, 1010], 0) :: (14, .lstore 10, 2, [], 0) :: (16, .lload 8, 2, [], 0) :: (18, .lload 10, 2, [], 0) :: (20, .lcmp, 1, [], 0) :: (21, .ifCond .eq 17, 3, [38], 0) :: (24, .lload 8, 2, [], 0) :: (26, .lload 10, 2, [], 0) :: (28, .lcmp, 1, [], 0) :: (29, .ifCond .ge 7, 3, [36], 0) :: (32, .iconst 1, 1, [], 0) :: (33, .goto 4, 3, [37], 0) :: c328_36
/-! 329 SueOrSettleModel.worst(IIII)J -/
def c329_152 : List JE := (152, .aload_n 0, 1, [], 0) :: (153, .getfield 18, 3, [12, 4, 6199, 0], 0) :: (156, .bipush 9, 2, [], 0) :: (158, .iload_n 2, 1, [], 0) :: (159, .imul, 1, [], 0) :: (160, .iload 5, 2, [], 0) :: (162, .iastore, 1, [], 0) :: (163, .lload 6, 2, [], 0) :: (165, .lload 8, 2, [], 0) :: (167, .iload 4, 2, [], 0) :: (169, .invokestatic 212, 3, [0, 3, 244, 7231, 7232, 1008], 0) :: (172, .lreturn, 1, [], 0) :: []
def c329_146 : List JE := (146, .iinc 10 1, 3, [], 0) :: (149, .goto (-82), 3, [67], 0) :: c329_152
def c329_132 : List JE := (132, .lload 11, 2, [], 0) :: (134, .lstore 6, 2, [], 0) :: (136, .ldc2_w 337, 3, [8152], 100) :: (139, .aload_n 0, 1, [], 0) :: (140, .getfield 189, 3, [12, 8, 6203, 0], 0) :: (143, .lmul, 1, [], 0) :: (144, .lstore 8, 2, [], 0) :: c329_146
def c329_67 : List JE := (67, .iload 10, 2, [], 0) :: (69, .iload_n 3, 1, [], 0) :: (70, .bipush 100, 2, [], 0) :: (72, .irem, 1, [], 0) :: (73, .if_icmp .gt 79, 3, [152], 0) :: (76, .aload_n 0, 1, [], 0) :: (77, .getfield 18, 3, [12, 4, 6199, 0], 0) :: (80, .bipush 9, 2, [], 0) :: (82, .iload_n 2, 1, [], 0) :: (83, .imul, 1, [], 0) :: (84, .iload 10, 2, [], 0) :: (86, .iastore, 1, [], 0) :: (87, .aload_n 0, 1, [], 0) :: (88, .invokevirtual 201, 3, [5, 0, 256, 12, 7211, 7213, 64, 1008], 0) :: (91, .pop, 1, [], 0) :: (92, .aload_n 0, 1, [], 0) :: (93, .iload_n 1, 1, [], 0) :: (94, .iconst 0, 1, [], 0) :: (95, .iconst 0, 1, [], 0) :: (96, .iconst 1, 1, [], 0) :: (97, .invokevirtual 341, 3, [5, 4, 298, 12, 8116, 8118, 88, 1008], 0) :: (100, .lstore 11, 2, [], 0) :: (102, .lload 8, 2, [], 0) :: (104, .lconst 0, 1, [], 0) :: (105, .lcmp, 1, [], 0) :: (106, .ifCond .eq 26, 3, [132], 0) :: (109, .lload 11, 2, [], 0) :: (111, .ldc2_w 337, 3, [8152], 100) :: (114, .aload_n 0, 1, [], 0) :: (115, .getfield 189, 3, [12, 8, 6203, 0], 0) :: (118, .lmul, 1, [], 0) :: (119, .lload 6, 2, [], 0) :: (121, .lload 8, 2, [], 0) :: (123, .invokestatic 411, 3, [0, 4, 328, 9025, 9026, 1008], 0) :: (126, .ifCond .ne 6, 3, [132], 0) :: (129, .goto 17, 3, [146], 0) :: c329_132
def c329_44 : List JE := (44, .aload_n 0, 1, [], 0) :: (45, .getfield 18, 3, [12, 4, 6199, 0], 0) :: (48, .bipush 9, 2, [], 0) :: (50, .iload_n 2, 1, [], 0) :: (51, .imul, 1, [], 0) :: (52, .iaload, 1, [], 0) :: (53, .istore 5, 2, [], 0) :: (55, .lconst 0, 1, [], 0) :: (56, .lstore 6, 2, [], 0) :: (58, .lconst 0, 1, [], 0) :: (59, .lstore 8, 2, [], 0) :: (61, .iload_n 3, 1, [], 0) :: (62, .bipush 100, 2, [], 0) :: (64, .idiv, 1, [], 0) :: (65, .istore 10, 2, [], 0) :: c329_67
def c329_24 : List JE := (24, .aload_n 0, 1, [], 0) :: (25, .iload_n 2, 1, [], 0) :: (26, .iload_n 3, 1, [], 0) :: (27, .bipush 100, 2, [], 0) :: (29, .idiv, 1, [], 0) :: (30, .iload_n 3, 1, [], 0) :: (31, .bipush 100, 2, [], 0) :: (33, .irem, 1, [], 0) :: (34, .invokevirtual 397, 3, [5, 3, 323, 12, 9005, 9007, 108, 1008], 0) :: (37, .ifCond .ne 7, 3, [44], 0) :: (40, .ldc2_w 339, 3, [8115], (-9223372036854775808)) :: (43, .lreturn, 1, [], 0) :: c329_44
def c329_20 : List JE := (20, .ldc2_w 339, 3, [8115], (-9223372036854775808)) :: (23, .lreturn, 1, [], 0) :: c329_24
def c329_0 : List JE := (0, .aload_n 0, 1, [], 0) :: (1, .iload_n 1, 1, [], 0) :: (2, .iload_n 2, 1, [], 0) :: (3, .iload_n 3, 1, [], 0) :: (4, .invokevirtual 394, 3, [5, 3, 322, 12, 9001, 9003, 107, 1008], 0) :: (7, .ifCond .eq 13, 3, [20], 0) :: (10, .iload 4, 2, [], 0) :: (12, .iconst 0, 1, [], 0) :: (13, .iconst 1, 1, [], 0) :: (14, .invokestatic 145, 3, [0, 3, 242, 7158, 7159, 1008], 0) :: (17, .ifCond .ne 7, 3, [24], 0) :: c329_20
/-! 330 SueOrSettleModel.table(II)I -/
def c330_51 : List JE := (51, .iload_n 1, 1, [], 0) :: (52, .iload_n 2, 1, [], 0) :: (53, .imul, 1, [], 0) :: (54, .ireturn, 1, [], 0) :: []
def c330_32 : List JE := (32, .iload_n 3, 1, [], 0) :: (33, .bipush 32, 2, [], 0) :: (35, .if_icmp .ge 16, 3, [51], 0) :: (38, .aload_n 0, 1, [], 0) :: (39, .getfield 86, 3, [12, 46, 7001, 0], 0) :: (42, .iload_n 3, 1, [], 0) :: (43, .iconst 0, 1, [], 0) :: (44, .iastore, 1, [], 0) :: (45, .iinc 3 1, 3, [], 0) :: (48, .goto (-16), 3, [32], 0) :: c330_51
def c330_20 : List JE := (20, .aload_n 0, 1, [], 0) :: (21, .iload_n 1, 1, [], 0) :: (22, .putfield 415, 3, [12, 44, 6239, 0], 0) :: (25, .aload_n 0, 1, [], 0) :: (26, .iload_n 2, 1, [], 0) :: (27, .putfield 418, 3, [12, 45, 7000, 0], 0) :: (30, .iconst 0, 1, [], 0) :: (31, .istore_n 3, 1, [], 0) :: c330_32
def c330_18 : List JE := (18, .iconst (-1), 1, [], 0) :: (19, .ireturn, 1, [], 0) :: c330_20
def c330_0 : List JE := (0, .iload_n 1, 1, [], 0) :: (1, .iconst 1, 1, [], 0) :: (2, .iconst 4, 1, [], 0) :: (3, .invokestatic 145, 3, [0, 3, 242, 7158, 7159, 1008], 0) :: (6, .ifCond .eq 12, 3, [18], 0) :: (9, .iload_n 2, 1, [], 0) :: (10, .iconst 1, 1, [], 0) :: (11, .iconst 4, 1, [], 0) :: (12, .invokestatic 145, 3, [0, 3, 242, 7158, 7159, 1008], 0) :: (15, .ifCond .ne 5, 3, [20], 0) :: c330_18
/-! 331 SueOrSettleModel.cell(III)I -/
def c331_50 : List JE := (50, .bipush 16, 2, [], 0) :: (52, .iload_n 2, 1, [], 0) :: (53, .imul, 1, [], 0) :: (54, .iconst 4, 1, [], 0) :: (55, .iload_n 1, 1, [], 0) :: (56, .bipush 10, 2, [], 0) :: (58, .idiv, 1, [], 0) :: (59, .imul, 1, [], 0) :: (60, .iadd, 1, [], 0) :: (61, .iload_n 1, 1, [], 0) :: (62, .bipush 10, 2, [], 0) :: (64, .irem, 1, [], 0) :: (65, .iadd, 1, [], 0) :: (66, .istore 4, 2, [], 0) :: (68, .aload_n 0, 1, [], 0) :: (69, .getfield 86, 3, [12, 46, 7001, 0], 0) :: (72, .iload 4, 2, [], 0) :: (74, .iaload, 1, [], 0) :: (75, .istore 5, 2, [], 0) :: (77, .aload_n 0, 1, [], 0) :: (78, .getfield 86, 3, [12, 46, 7001, 0], 0) :: (81, .iload 4, 2, [], 0) :: (83, .iload_n 3, 1, [], 0) :: (84, .iastore, 1, [], 0) :: (85, .iload 5, 2, [], 0) :: (87, .ireturn, 1, [], 0) :: []
def c331_46 : List JE := (46, .ldc_w 266, 3, [8050], (-2000000000)) :: (49, .ireturn, 1, [], 0) :: c331_50
def c331_0 : List JE := (0, .iload_n 1, 1, [], 0) :: (1, .ifCond .lt 45, 3, [46], 0) :: (4, .iload_n 1, 1, [], 0) :: (5, .bipush 10, 2, [], 0) :: (7, .idiv, 1, [], 0) :: (8, .aload_n 0, 1, [], 0) :: (9, .getfield 415, 3, [12, 44, 6239, 0], 0) :: (12, .if_icmp .ge 34, 3, [46], 0) :: (15, .iload_n 1, 1, [], 0) :: (16, .bipush 10, 2, [], 0) :: (18, .irem, 1, [], 0) :: (19, .aload_n 0, 1, [], 0) :: (20, .getfield 418, 3, [12, 45, 7000, 0], 0) :: (23, .if_icmp .ge 23, 3, [46], 0) :: (26, .iload_n 2, 1, [], 0) :: (27, .iconst 0, 1, [], 0) :: (28, .iconst 1, 1, [], 0) :: (29, .invokestatic 145, 3, [0, 3, 242, 7158, 7159, 1008], 0) :: (32, .ifCond .eq 14, 3, [46], 0) :: (35, .iload_n 3, 1, [], 0) :: (36, .bipush (-99), 2, [], 0) :: (38, .bipush 99, 2, [], 0) :: (40, .invokestatic 145, 3, [0, 3, 242, 7158, 7159, 1008], 0) :: (43, .ifCond .ne 7, 3, [50], 0) :: c331_46
/-! 332 SueOrSettleModel.isSure(II)Z -/
def c332_88 : List JE := (88, .iconst 1, 1, [], 0) :: (89, .ireturn, 1, [1], 0) :: []
def c332_82 : List JE := (82, .iinc 3 1, 3, [], 0) :: (85, .goto (-42), 3, [43], 0) :: c332_88
def c332_43 : List JE := (43, .iload_n 3, 1, [], 0) :: (44, .aload_n 0, 1, [], 0) :: (45, .getfield 418, 3, [12, 45, 7000, 0], 0) :: (48, .if_icmp .ge 40, 3, [88], 0) :: (51, .aload_n 0, 1, [], 0) :: (52, .getfield 86, 3, [12, 46, 7001, 0], 0) :: (55, .bipush 16, 2, [], 0) :: (57, .iconst 4, 1, [], 0) :: (58, .iload_n 1, 1, [], 0) :: (59, .imul, 1, [], 0) :: (60, .iadd, 1, [], 0) :: (61, .iload_n 3, 1, [], 0) :: (62, .iadd, 1, [], 0) :: (63, .iaload, 1, [], 0) :: (64, .aload_n 0, 1, [], 0) :: (65, .getfield 86, 3, [12, 46, 7001, 0], 0) :: (68, .bipush 16, 2, [], 0) :: (70, .iconst 4, 1, [], 0) :: (71, .iload_n 1, 1, [], 0) :: (72, .imul, 1, [], 0) :: (73, .iadd, 1, [], 0) :: (74, .iload_n 2, 1, [], 0) :: (75, .iadd, 1, [], 0) :: (76, .iaload, 1, [], 0) :: (77, .if_icmp .le 5, 3, [82], 0) :: (80, .iconst 0, 1, [], 0) :: (81, .ireturn, 1, [1], 0) :: c332_82
def c332_41 : List JE := (41, .iconst 0, 1, [], 0) :: (42, .istore_n 3, 1, [], 0) :: c332_43
def c332_35 : List JE := (35, .iinc 3 1, 3, [], 0) :: (38, .goto (-36), 3, [2], 0) :: c332_41
def c332_2 : List JE := (2, .iload_n 3, 1, [], 0) :: (3, .aload_n 0, 1, [], 0) :: (4, .getfield 415, 3, [12, 44, 6239, 0], 0) :: (7, .if_icmp .ge 34, 3, [41], 0) :: (10, .aload_n 0, 1, [], 0) :: (11, .getfield 86, 3, [12, 46, 7001, 0], 0) :: (14, .iconst 4, 1, [], 0) :: (15, .iload_n 3, 1, [], 0) :: (16, .imul, 1, [], 0) :: (17, .iload_n 2, 1, [], 0) :: (18, .iadd, 1, [], 0) :: (19, .iaload, 1, [], 0) :: (20, .aload_n 0, 1, [], 0) :: (21, .getfield 86, 3, [12, 46, 7001, 0], 0) :: (24, .iconst 4, 1, [], 0) :: (25, .iload_n 1, 1, [], 0) :: (26, .imul, 1, [], 0) :: (27, .iload_n 2, 1, [], 0) :: (28, .iadd, 1, [], 0) :: (29, .iaload, 1, [], 0) :: (30, .if_icmp .le 5, 3, [35], 0) :: (33, .iconst 0, 1, [], 0) :: (34, .ireturn, 1, [1], 0) :: c332_35
def c332_0 : List JE := (0, .iconst 0, 1, [], 0) :: (1, .istore_n 3, 1, [], 0) :: c332_2
/-! 333 SueOrSettleModel.sure(I)I -/
def c333_88 : List JE := (88, .ireturn, 1, [], 0) :: []
def c333_87 : List JE := (87, .iconst (-1), 1, [], 0) :: c333_88
def c333_79 : List JE := (79, .iload_n 1, 1, [], 0) :: (80, .ifCond .ge 7, 3, [87], 0) :: (83, .iload_n 2, 1, [], 0) :: (84, .goto 4, 3, [88], 0) :: c333_87
def c333_73 : List JE := (73, .iinc 3 1, 3, [], 0) :: (76, .goto (-58), 3, [18], 0) :: c333_79
def c333_67 : List JE := (67, .iinc 4 1, 3, [], 0) :: (70, .goto (-41), 3, [29], 0) :: c333_73
def c333_64 : List JE := (64, .iinc 2 1, 3, [], 0) :: c333_67
def c333_51 : List JE := (51, .iload_n 2, 1, [], 0) :: (52, .iload_n 1, 1, [], 0) :: (53, .if_icmp .ne 11, 3, [64], 0) :: (56, .bipush 10, 2, [], 0) :: (58, .iload_n 3, 1, [], 0) :: (59, .imul, 1, [], 0) :: (60, .iload 4, 2, [], 0) :: (62, .iadd, 1, [], 0) :: (63, .ireturn, 1, [], 0) :: c333_64
def c333_29 : List JE := (29, .iload 4, 2, [], 0) :: (31, .aload_n 0, 1, [], 0) :: (32, .getfield 418, 3, [12, 45, 7000, 0], 0) :: (35, .if_icmp .ge 38, 3, [73], 0) :: (38, .aload_n 0, 1, [], 0) :: (39, .iload_n 3, 1, [], 0) :: (40, .iload 4, 2, [], 0) :: (42, .invokevirtual 421, 3, [5, 2, 332, 12, 9041, 9043, 112, 1008], 0) :: (45, .ifCond .ne 6, 3, [51], 0) :: (48, .goto 19, 3, [67], 0) :: c333_51
def c333_18 : List JE := (18, .iload_n 3, 1, [], 0) :: (19, .aload_n 0, 1, [], 0) :: (20, .getfield 415, 3, [12, 44, 6239, 0], 0) :: (23, .if_icmp .ge 56, 3, [79], 0) :: (26, .iconst 0, 1, [], 0) :: (27, .istore 4, 2, [], 0) :: c333_29
def c333_14 : List JE := (14, .iconst 0, 1, [], 0) :: (15, .istore_n 2, 1, [], 0) :: (16, .iconst 0, 1, [], 0) :: (17, .istore_n 3, 1, [], 0) :: c333_18
def c333_12 : List JE := (12, .iconst (-1), 1, [], 0) :: (13, .ireturn, 1, [], 0) :: c333_14
def c333_0 : List JE := (0, .aload_n 0, 1, [], 0) :: (1, .getfield 415, 3, [12, 44, 6239, 0], 0) :: (4, .ifCond .eq 8, 3, [12], 0) :: (7, .iload_n 1, 1, [], 0) :: (8, .iconst (-1), 1, [], 0) :: (9, .if_icmp .ge 5, 3, [14], 0) :: c333_12
/-! 334 SueOrSettleModel.lesser(II)I -/
def c334_10 : List JE := (10, .ireturn, 1, [], 0) :: []
def c334_9 : List JE := (9, .iload_n 1, 1, [], 0) :: c334_10
def c334_0 : List JE := (0, .iload_n 0, 1, [], 0) :: (1, .iload_n 1, 1, [], 0) :: (2, .if_icmp .ge 7, 3, [9], 0) :: (5, .iload_n 0, 1, [], 0) :: (6, .goto 4, 3, [10], 0) :: c334_9
/-! 335 SueOrSettleModel.greater(II)I -/
def c335_10 : List JE := (10, .ireturn, 1, [], 0) :: []
def c335_9 : List JE := (9, .iload_n 1, 1, [], 0) :: c335_10
def c335_0 : List JE := (0, .iload_n 0, 1, [], 0) :: (1, .iload_n 1, 1, [], 0) :: (2, .if_icmp .le 7, 3, [9], 0) :: (5, .iload_n 0, 1, [], 0) :: (6, .goto 4, 3, [10], 0) :: c335_9
/-! 336 SueOrSettleModel.lots(I)I -/
def c336_221 : List JE := (221, .l2i, 1, [], 0) :: (222, .ireturn, 1, [], 0) :: []
def c336_209 : List JE := (209, .iload 9, 2, [], 0) :: (211, .ineg, 1, [], 0) :: (212, .i2l, 1, [], 0) :: (213, .iload 8, 2, [], 0) :: (215, .ineg, 1, [], 0) :: (216, .i2l, 1, [], 0) :: (217, .iload_n 1, 1, [], 0) :: (218, .invokestatic 212, 3, [0, 3, 244, 7231, 7232, 1008], 0) :: c336_221
def c336_169 : List JE := (169, .iload_n 2, 1, [], 0) :: (170, .iload 5, 2, [], 0) :: (172, .iadd, 1, [], 0) :: (173, .iload_n 3, 1, [], 0) :: (174, .isub, 1, [], 0) :: (175, .iload 4, 2, [], 0) :: (177, .isub, 1, [], 0) :: (178, .istore 8, 2, [], 0) :: (180, .iload_n 2, 1, [], 0) :: (181, .iload 5, 2, [], 0) :: (183, .imul, 1, [], 0) :: (184, .iload_n 3, 1, [], 0) :: (185, .iload 4, 2, [], 0) :: (187, .imul, 1, [], 0) :: (188, .isub, 1, [], 0) :: (189, .istore 9, 2, [], 0) :: (191, .iload 8, 2, [], 0) :: (193, .ifCond .le 16, 3, [209], 0) :: (196, .iload 9, 2, [], 0) :: (198, .i2l, 1, [], 0) :: (199, .iload 8, 2, [], 0) :: (201, .i2l, 1, [], 0) :: (202, .iload_n 1, 1, [], 0) :: (203, .invokestatic 212, 3, [0, 3, 244, 7231, 7232, 1008], 0) :: (206, .goto 15, 3, [221], 0) :: c336_209
def c336_88 : List JE := (88, .aload_n 0, 1, [], 0) :: (89, .getfield 86, 3, [12, 46, 7001, 0], 0) :: (92, .iconst 0, 1, [], 0) :: (93, .iaload, 1, [], 0) :: (94, .istore_n 2, 1, [], 0) :: (95, .aload_n 0, 1, [], 0) :: (96, .getfield 86, 3, [12, 46, 7001, 0], 0) :: (99, .iconst 1, 1, [], 0) :: (100, .iaload, 1, [], 0) :: (101, .istore_n 3, 1, [], 0) :: (102, .aload_n 0, 1, [], 0) :: (103, .getfield 86, 3, [12, 46, 7001, 0], 0) :: (106, .iconst 4, 1, [], 0) :: (107, .iaload, 1, [], 0) :: (108, .istore 4, 2, [], 0) :: (110, .aload_n 0, 1, [], 0) :: (111, .getfield 86, 3, [12, 46, 7001, 0], 0) :: (114, .iconst 5, 1, [], 0) :: (115, .iaload, 1, [], 0) :: (116, .istore 5, 2, [], 0) :: (118, .iload_n 2, 1, [], 0) :: (119, .iload_n 3, 1, [], 0) :: (120, .invokestatic 424, 3, [0, 2, 334, 9049, 9050, 1008], 0) :: (123, .iload 4, 2, [], 0) :: (125, .iload 5, 2, [], 0) :: (127, .invokestatic 424, 3, [0, 2, 334, 9049, 9050, 1008], 0) :: (130, .invokestatic 427, 3, [0, 2, 335, 9052, 9053, 1008], 0) :: (133, .istore 6, 2, [], 0) :: (135, .iload_n 2, 1, [], 0) :: (136, .iload 4, 2, [], 0) :: (138, .invokestatic 427, 3, [0, 2, 335, 9052, 9053, 1008], 0) :: (141, .iload_n 3, 1, [], 0) :: (142, .iload 5, 2, [], 0) :: (144, .invokestatic 427, 3, [0, 2, 335, 9052, 9053, 1008], 0) :: (147, .invokestatic 424, 3, [0, 2, 334, 9049, 9050, 1008], 0) :: (150, .istore 7, 2, [], 0) :: (152, .iload 6, 2, [], 0) :: (154, .iload 7, 2, [], 0) :: (156, .if_icmp .ne 13, 3, [169], 0) :: (159, .iload 6, 2, [], 0) :: (161, .i2l, 1, [], 0) :: (162, .lconst 1, 1, [], 0) :: (163, .iload_n 1, 1, [], 0) :: (164, .invokestatic 212, 3, [0, 3, 244, 7231, 7232, 1008], 0) :: (167, .l2i, 1, [], 0) :: (168, .ireturn, 1, [], 0) :: c336_169
def c336_82 : List JE := (82, .iinc 2 1, 3, [], 0) :: (85, .goto (-51), 3, [34], 0) :: c336_88
def c336_76 : List JE := (76, .iinc 3 1, 3, [], 0) :: (79, .goto (-38), 3, [41], 0) :: c336_82
def c336_41 : List JE := (41, .iload_n 3, 1, [], 0) :: (42, .iconst 2, 1, [], 0) :: (43, .if_icmp .ge 39, 3, [82], 0) :: (46, .aload_n 0, 1, [], 0) :: (47, .getfield 86, 3, [12, 46, 7001, 0], 0) :: (50, .iconst 4, 1, [], 0) :: (51, .iload_n 2, 1, [], 0) :: (52, .imul, 1, [], 0) :: (53, .iload_n 3, 1, [], 0) :: (54, .iadd, 1, [], 0) :: (55, .iaload, 1, [], 0) :: (56, .aload_n 0, 1, [], 0) :: (57, .getfield 86, 3, [12, 46, 7001, 0], 0) :: (60, .bipush 16, 2, [], 0) :: (62, .iconst 4, 1, [], 0) :: (63, .iload_n 2, 1, [], 0) :: (64, .imul, 1, [], 0) :: (65, .iadd, 1, [], 0) :: (66, .iload_n 3, 1, [], 0) :: (67, .iadd, 1, [], 0) :: (68, .iaload, 1, [], 0) :: (69, .ineg, 1, [], 0) :: (70, .if_icmp .eq 6, 3, [76], 0) :: (73, .bipush (-5), 2, [], 0) :: (75, .ireturn, 1, [], 0) :: c336_76
def c336_34 : List JE := (34, .iload_n 2, 1, [], 0) :: (35, .iconst 2, 1, [], 0) :: (36, .if_icmp .ge 52, 3, [88], 0) :: (39, .iconst 0, 1, [], 0) :: (40, .istore_n 3, 1, [], 0) :: c336_41
def c336_32 : List JE := (32, .iconst 0, 1, [], 0) :: (33, .istore_n 2, 1, [], 0) :: c336_34
def c336_29 : List JE := (29, .bipush (-5), 2, [], 0) :: (31, .ireturn, 1, [], 0) :: c336_32
def c336_13 : List JE := (13, .aload_n 0, 1, [], 0) :: (14, .getfield 415, 3, [12, 44, 6239, 0], 0) :: (17, .iconst 2, 1, [], 0) :: (18, .if_icmp .ne 11, 3, [29], 0) :: (21, .aload_n 0, 1, [], 0) :: (22, .getfield 418, 3, [12, 45, 7000, 0], 0) :: (25, .iconst 2, 1, [], 0) :: (26, .if_icmp .eq 6, 3, [32], 0) :: c336_29
def c336_0 : List JE := (0, .iload_n 1, 1, [], 0) :: (1, .iconst 0, 1, [], 0) :: (2, .iconst 1, 1, [], 0) :: (3, .invokestatic 145, 3, [0, 3, 242, 7158, 7159, 1008], 0) :: (6, .ifCond .ne 7, 3, [13], 0) :: (9, .ldc_w 266, 3, [8050], (-2000000000)) :: (12, .ireturn, 1, [], 0) :: c336_13
/-! 337 SueOrSettleModel.isStruck(ZIII)Z -/
def c337_188 : List JE := (188, .iconst 0, 1, [], 0) :: (189, .ireturn, 1, [1], 0) :: []
def c337_182 : List JE := (182, .iinc 6 1, 3, [], 0) :: (185, .goto (-165), 3, [20], 0) :: c337_188
def c337_175 : List JE := (175, .iload 7, 2, [], 0) :: (177, .ifCond .eq 5, 3, [182], 0) :: (180, .iconst 1, 1, [], 0) :: (181, .ireturn, 1, [1], 0) :: c337_182
def c337_169 : List JE := (169, .iinc 8 1, 3, [], 0) :: (172, .goto (-112), 3, [60], 0) :: c337_175
def c337_167 : List JE := (167, .istore 7, 2, [], 0) :: c337_169
def c337_166 : List JE := (166, .iconst 0, 1, [], 0) :: c337_167
def c337_130 : List JE := (130, .aload_n 0, 1, [], 0) :: (131, .getfield 86, 3, [12, 46, 7001, 0], 0) :: (134, .bipush 16, 2, [], 0) :: (136, .iconst 4, 1, [], 0) :: (137, .iload 8, 2, [], 0) :: (139, .imul, 1, [], 0) :: (140, .iadd, 1, [], 0) :: (141, .iload 6, 2, [], 0) :: (143, .iadd, 1, [], 0) :: (144, .iaload, 1, [], 0) :: (145, .aload_n 0, 1, [], 0) :: (146, .getfield 86, 3, [12, 46, 7001, 0], 0) :: (149, .bipush 16, 2, [], 0) :: (151, .iconst 4, 1, [], 0) :: (152, .iload 8, 2, [], 0) :: (154, .imul, 1, [], 0) :: (155, .iadd, 1, [], 0) :: (156, .iload_n 2, 1, [], 0) :: (157, .iadd, 1, [], 0) :: (158, .iaload, 1, [], 0) :: (159, .if_icmp .le 7, 3, [166], 0) :: (162, .iconst 1, 1, [], 0) :: (163, .goto 4, 3, [167], 0) :: c337_166
def c337_126 : List JE := (126, .iconst 0, 1, [], 0) :: (127, .goto 40, 3, [167], 0) :: c337_130
def c337_92 : List JE := (92, .iload_n 1, 1, [], 0) :: (93, .ifCond .eq 37, 3, [130], 0) :: (96, .aload_n 0, 1, [], 0) :: (97, .getfield 86, 3, [12, 46, 7001, 0], 0) :: (100, .iconst 4, 1, [], 0) :: (101, .iload 6, 2, [], 0) :: (103, .imul, 1, [], 0) :: (104, .iload 8, 2, [], 0) :: (106, .iadd, 1, [], 0) :: (107, .iaload, 1, [], 0) :: (108, .aload_n 0, 1, [], 0) :: (109, .getfield 86, 3, [12, 46, 7001, 0], 0) :: (112, .iconst 4, 1, [], 0) :: (113, .iload_n 2, 1, [], 0) :: (114, .imul, 1, [], 0) :: (115, .iload 8, 2, [], 0) :: (117, .iadd, 1, [], 0) :: (118, .iaload, 1, [], 0) :: (119, .if_icmp .le 7, 3, [126], 0) :: (122, .iconst 1, 1, [], 0) :: (123, .goto 44, 3, [167], 0) :: c337_126
def c337_81 : List JE := (81, .iload 8, 2, [], 0) :: (83, .ishr, 1, [], 0) :: (84, .iconst 1, 1, [], 0) :: (85, .iand, 1, [], 0) :: (86, .ifCond .ne 6, 3, [92], 0) :: (89, .goto 80, 3, [169], 0) :: c337_92
def c337_80 : List JE := (80, .iload_n 3, 1, [], 0) :: c337_81
def c337_60 : List JE := (60, .iload 8, 2, [], 0) :: (62, .iconst 4, 1, [], 0) :: (63, .if_icmp .ge 112, 3, [175], 0) :: (66, .iload 7, 2, [], 0) :: (68, .ifCond .eq 107, 3, [175], 0) :: (71, .iload_n 1, 1, [], 0) :: (72, .ifCond .eq 8, 3, [80], 0) :: (75, .iload 4, 2, [], 0) :: (77, .goto 4, 3, [81], 0) :: c337_80
def c337_54 : List JE := (54, .iconst 1, 1, [], 0) :: (55, .istore 7, 2, [], 0) :: (57, .iconst 0, 1, [], 0) :: (58, .istore 8, 2, [], 0) :: c337_60
def c337_43 : List JE := (43, .iload 6, 2, [], 0) :: (45, .ishr, 1, [], 0) :: (46, .iconst 1, 1, [], 0) :: (47, .iand, 1, [], 0) :: (48, .ifCond .ne 6, 3, [54], 0) :: (51, .goto 131, 3, [182], 0) :: c337_54
def c337_41 : List JE := (41, .iload 4, 2, [], 0) :: c337_43
def c337_20 : List JE := (20, .iload 6, 2, [], 0) :: (22, .iload 5, 2, [], 0) :: (24, .if_icmp .ge 164, 3, [188], 0) :: (27, .iload 6, 2, [], 0) :: (29, .iload_n 2, 1, [], 0) :: (30, .if_icmp .eq 152, 3, [182], 0) :: (33, .iload_n 1, 1, [], 0) :: (34, .ifCond .eq 7, 3, [41], 0) :: (37, .iload_n 3, 1, [], 0) :: (38, .goto 5, 3, [43], 0) :: c337_41
def c337_15 : List JE := (15, .istore 5, 2, [], 0) :: (17, .iconst 0, 1, [], 0) :: (18, .istore 6, 2, [], 0) :: c337_20
def c337_11 : List JE := (11, .aload_n 0, 1, [], 0) :: (12, .getfield 418, 3, [12, 45, 7000, 0], 0) :: c337_15
def c337_0 : List JE := (0, .iload_n 1, 1, [], 0) :: (1, .ifCond .eq 10, 3, [11], 0) :: (4, .aload_n 0, 1, [], 0) :: (5, .getfield 415, 3, [12, 44, 6239, 0], 0) :: (8, .goto 7, 3, [15], 0) :: c337_11
/-! 338 SueOrSettleModel.struck(I)I -/
def c338_177 : List JE := (177, .ireturn, 1, [], 0) :: []
def c338_176 : List JE := (176, .iload_n 3, 1, [], 0) :: c338_177
def c338_168 : List JE := (168, .iload_n 1, 1, [], 0) :: (169, .ifCond .ne 7, 3, [176], 0) :: (172, .iload_n 2, 1, [], 0) :: (173, .goto 4, 3, [177], 0) :: c338_176
def c338_165 : List JE := (165, .goto (-126), 3, [39], 0) :: c338_168
def c338_159 : List JE := (159, .iinc 5 1, 3, [], 0) :: (162, .goto (-53), 3, [109], 0) :: c338_165
def c338_147 : List JE := (147, .iload_n 3, 1, [], 0) :: (148, .iconst 1, 1, [], 0) :: (149, .iload 5, 2, [], 0) :: (151, .ishl, 1, [], 0) :: (152, .iconst (-1), 1, [], 0) :: (153, .ixor, 1, [], 0) :: (154, .iand, 1, [], 0) :: (155, .istore_n 3, 1, [], 0) :: (156, .iconst 1, 1, [], 0) :: (157, .istore 4, 2, [], 0) :: c338_159
def c338_109 : List JE := (109, .iload 5, 2, [], 0) :: (111, .aload_n 0, 1, [], 0) :: (112, .getfield 418, 3, [12, 45, 7000, 0], 0) :: (115, .if_icmp .ge 50, 3, [165], 0) :: (118, .iload 4, 2, [], 0) :: (120, .ifCond .ne 45, 3, [165], 0) :: (123, .iload_n 3, 1, [], 0) :: (124, .iload 5, 2, [], 0) :: (126, .ishr, 1, [], 0) :: (127, .iconst 1, 1, [], 0) :: (128, .iand, 1, [], 0) :: (129, .ifCond .eq 30, 3, [159], 0) :: (132, .aload_n 0, 1, [], 0) :: (133, .iconst 0, 1, [], 0) :: (134, .iload 5, 2, [], 0) :: (136, .iload_n 2, 1, [], 0) :: (137, .iload_n 3, 1, [], 0) :: (138, .invokevirtual 430, 3, [5, 4, 337, 12, 9059, 9061, 113, 1008], 0) :: (141, .ifCond .ne 6, 3, [147], 0) :: (144, .goto 15, 3, [159], 0) :: c338_147
def c338_106 : List JE := (106, .iconst 0, 1, [], 0) :: (107, .istore 5, 2, [], 0) :: c338_109
def c338_100 : List JE := (100, .iinc 5 1, 3, [], 0) :: (103, .goto (-53), 3, [50], 0) :: c338_106
def c338_88 : List JE := (88, .iload_n 2, 1, [], 0) :: (89, .iconst 1, 1, [], 0) :: (90, .iload 5, 2, [], 0) :: (92, .ishl, 1, [], 0) :: (93, .iconst (-1), 1, [], 0) :: (94, .ixor, 1, [], 0) :: (95, .iand, 1, [], 0) :: (96, .istore_n 2, 1, [], 0) :: (97, .iconst 1, 1, [], 0) :: (98, .istore 4, 2, [], 0) :: c338_100
def c338_50 : List JE := (50, .iload 5, 2, [], 0) :: (52, .aload_n 0, 1, [], 0) :: (53, .getfield 415, 3, [12, 44, 6239, 0], 0) :: (56, .if_icmp .ge 50, 3, [106], 0) :: (59, .iload 4, 2, [], 0) :: (61, .ifCond .ne 45, 3, [106], 0) :: (64, .iload_n 2, 1, [], 0) :: (65, .iload 5, 2, [], 0) :: (67, .ishr, 1, [], 0) :: (68, .iconst 1, 1, [], 0) :: (69, .iand, 1, [], 0) :: (70, .ifCond .eq 30, 3, [100], 0) :: (73, .aload_n 0, 1, [], 0) :: (74, .iconst 1, 1, [], 0) :: (75, .iload 5, 2, [], 0) :: (77, .iload_n 2, 1, [], 0) :: (78, .iload_n 3, 1, [], 0) :: (79, .invokevirtual 430, 3, [5, 4, 337, 12, 9059, 9061, 113, 1008], 0) :: (82, .ifCond .ne 6, 3, [88], 0) :: (85, .goto 15, 3, [100], 0) :: c338_88
def c338_39 : List JE := (39, .iload 4, 2, [], 0) :: (41, .ifCond .eq 127, 3, [168], 0) :: (44, .iconst 0, 1, [], 0) :: (45, .istore 4, 2, [], 0) :: (47, .iconst 0, 1, [], 0) :: (48, .istore 5, 2, [], 0) :: c338_50
def c338_18 : List JE := (18, .iconst 1, 1, [], 0) :: (19, .aload_n 0, 1, [], 0) :: (20, .getfield 415, 3, [12, 44, 6239, 0], 0) :: (23, .ishl, 1, [], 0) :: (24, .iconst 1, 1, [], 0) :: (25, .isub, 1, [], 0) :: (26, .istore_n 2, 1, [], 0) :: (27, .iconst 1, 1, [], 0) :: (28, .aload_n 0, 1, [], 0) :: (29, .getfield 418, 3, [12, 45, 7000, 0], 0) :: (32, .ishl, 1, [], 0) :: (33, .iconst 1, 1, [], 0) :: (34, .isub, 1, [], 0) :: (35, .istore_n 3, 1, [], 0) :: (36, .iconst 1, 1, [], 0) :: (37, .istore 4, 2, [], 0) :: c338_39
def c338_16 : List JE := (16, .iconst (-1), 1, [], 0) :: (17, .ireturn, 1, [], 0) :: c338_18
def c338_0 : List JE := (0, .aload_n 0, 1, [], 0) :: (1, .getfield 415, 3, [12, 44, 6239, 0], 0) :: (4, .ifCond .eq 12, 3, [16], 0) :: (7, .iload_n 1, 1, [], 0) :: (8, .iconst 0, 1, [], 0) :: (9, .iconst 1, 1, [], 0) :: (10, .invokestatic 145, 3, [0, 3, 242, 7158, 7159, 1008], 0) :: (13, .ifCond .ne 5, 3, [18], 0) :: c338_16
/-! 339 SueOrSettleModel.sort(III)I -/
def c339_43 : List JE := (43, .aload_n 0, 1, [], 0) :: (44, .getfield 89, 3, [12, 48, 7003, 0], 0) :: (47, .aload_n 0, 1, [], 0) :: (48, .getfield 434, 3, [12, 47, 7002, 0], 0) :: (51, .iload_n 1, 1, [], 0) :: (52, .iastore, 1, [], 0) :: (53, .aload_n 0, 1, [], 0) :: (54, .getfield 92, 3, [12, 49, 7004, 0], 0) :: (57, .aload_n 0, 1, [], 0) :: (58, .getfield 434, 3, [12, 47, 7002, 0], 0) :: (61, .iload_n 2, 1, [], 0) :: (62, .iastore, 1, [], 0) :: (63, .aload_n 0, 1, [], 0) :: (64, .getfield 95, 3, [12, 50, 7005, 0], 0) :: (67, .aload_n 0, 1, [], 0) :: (68, .getfield 434, 3, [12, 47, 7002, 0], 0) :: (71, .iload_n 3, 1, [], 0) :: (72, .iastore, 1, [], 0) :: (73, .aload_n 0, 1, [], 0) :: (74, .dup, 1, [], 0) :: (75, .getfield 434, 3, [12, 47, 7002, 0], 0) :: (78, .iconst 1, 1, [], 0) :: (79, .iadd, 1, [], 0) :: (80, .putfield 434, 3, [12, 47, 7002, 0], 0) :: (83, .aload_n 0, 1, [], 0) :: (84, .getfield 434, 3, [12, 47, 7002, 0], 0) :: (87, .ireturn, 1, [], 0) :: []
def c339_32 : List JE := (32, .aload_n 0, 1, [], 0) :: (33, .getfield 434, 3, [12, 47, 7002, 0], 0) :: (36, .iconst 3, 1, [], 0) :: (37, .if_icmp .ne 6, 3, [43], 0) :: (40, .bipush (-3), 2, [], 0) :: (42, .ireturn, 1, [], 0) :: c339_43
def c339_30 : List JE := (30, .iconst (-1), 1, [], 0) :: (31, .ireturn, 1, [], 0) :: c339_32
def c339_0 : List JE := (0, .iload_n 1, 1, [], 0) :: (1, .iconst 1, 1, [], 0) :: (2, .bipush 9, 2, [], 0) :: (4, .invokestatic 145, 3, [0, 3, 242, 7158, 7159, 1008], 0) :: (7, .ifCond .eq 23, 3, [30], 0) :: (10, .iload_n 2, 1, [], 0) :: (11, .iconst 0, 1, [], 0) :: (12, .bipush 99, 2, [], 0) :: (14, .invokestatic 145, 3, [0, 3, 242, 7158, 7159, 1008], 0) :: (17, .ifCond .eq 13, 3, [30], 0) :: (20, .iload_n 3, 1, [], 0) :: (21, .iconst 0, 1, [], 0) :: (22, .bipush 99, 2, [], 0) :: (24, .invokestatic 145, 3, [0, 3, 242, 7158, 7159, 1008], 0) :: (27, .ifCond .ne 5, 3, [32], 0) :: c339_30
/-! 340 SueOrSettleModel.offer(I)I -/
def c340_51 : List JE := (51, .aload_n 0, 1, [], 0) :: (52, .getfield 98, 3, [12, 52, 7007, 0], 0) :: (55, .aload_n 0, 1, [], 0) :: (56, .getfield 437, 3, [12, 51, 7006, 0], 0) :: (59, .iload_n 1, 1, [], 0) :: (60, .iastore, 1, [], 0) :: (61, .aload_n 0, 1, [], 0) :: (62, .dup, 1, [], 0) :: (63, .getfield 437, 3, [12, 51, 7006, 0], 0) :: (66, .iconst 1, 1, [], 0) :: (67, .iadd, 1, [], 0) :: (68, .putfield 437, 3, [12, 51, 7006, 0], 0) :: (71, .aload_n 0, 1, [], 0) :: (72, .getfield 437, 3, [12, 51, 7006, 0], 0) :: (75, .ireturn, 1, [], 0) :: []
def c340_40 : List JE := (40, .aload_n 0, 1, [], 0) :: (41, .getfield 437, 3, [12, 51, 7006, 0], 0) :: (44, .iconst 4, 1, [], 0) :: (45, .if_icmp .ne 6, 3, [51], 0) :: (48, .bipush (-3), 2, [], 0) :: (50, .ireturn, 1, [], 0) :: c340_51
def c340_34 : List JE := (34, .iinc 2 1, 3, [], 0) :: (37, .goto (-23), 3, [14], 0) :: c340_40
def c340_14 : List JE := (14, .iload_n 2, 1, [], 0) :: (15, .aload_n 0, 1, [], 0) :: (16, .getfield 437, 3, [12, 51, 7006, 0], 0) :: (19, .if_icmp .ge 21, 3, [40], 0) :: (22, .aload_n 0, 1, [], 0) :: (23, .getfield 98, 3, [12, 52, 7007, 0], 0) :: (26, .iload_n 2, 1, [], 0) :: (27, .iaload, 1, [], 0) :: (28, .iload_n 1, 1, [], 0) :: (29, .if_icmp .ne 5, 3, [34], 0) :: (32, .iconst (-1), 1, [], 0) :: (33, .ireturn, 1, [], 0) :: c340_34
def c340_12 : List JE := (12, .iconst 0, 1, [], 0) :: (13, .istore_n 2, 1, [], 0) :: c340_14
def c340_0 : List JE := (0, .iload_n 1, 1, [], 0) :: (1, .iconst 0, 1, [], 0) :: (2, .bipush 99, 2, [], 0) :: (4, .invokestatic 145, 3, [0, 3, 242, 7158, 7159, 1008], 0) :: (7, .ifCond .ne 5, 3, [12], 0) :: (10, .iconst (-1), 1, [], 0) :: (11, .ireturn, 1, [], 0) :: c340_12
/-! 341 SueOrSettleModel.getsBy(III)I -/
def c341_31 : List JE := (31, .ireturn, 1, [], 0) :: []
def c341_18 : List JE := (18, .aload_n 0, 1, [], 0) :: (19, .getfield 92, 3, [12, 49, 7004, 0], 0) :: (22, .iload_n 1, 1, [], 0) :: (23, .iaload, 1, [], 0) :: (24, .aload_n 0, 1, [], 0) :: (25, .getfield 95, 3, [12, 50, 7005, 0], 0) :: (28, .iload_n 1, 1, [], 0) :: (29, .iaload, 1, [], 0) :: (30, .isub, 1, [], 0) :: c341_31
def c341_0 : List JE := (0, .iload_n 3, 1, [], 0) :: (1, .iload_n 2, 1, [], 0) :: (2, .ishr, 1, [], 0) :: (3, .iconst 1, 1, [], 0) :: (4, .iand, 1, [], 0) :: (5, .iconst 1, 1, [], 0) :: (6, .if_icmp .ne 12, 3, [18], 0) :: (9, .aload_n 0, 1, [], 0) :: (10, .getfield 98, 3, [12, 52, 7007, 0], 0) :: (13, .iload_n 2, 1, [], 0) :: (14, .iaload, 1, [], 0) :: (15, .goto 16, 3, [31], 0) :: c341_18
/-! 342 SueOrSettleModel.isToTake(III)Z -/
def c342_146 : List JE := (146, .ireturn, 1, [1], 0) :: []
def c342_145 : List JE := (145, .iconst 0, 1, [], 0) :: c342_146
def c342_122 : List JE := (122, .aload_n 0, 1, [], 0) :: (123, .getfield 98, 3, [12, 52, 7007, 0], 0) :: (126, .iload_n 1, 1, [], 0) :: (127, .iaload, 1, [], 0) :: (128, .iload 4, 2, [], 0) :: (130, .imul, 1, [], 0) :: (131, .iload 5, 2, [], 0) :: (133, .iload_n 3, 1, [], 0) :: (134, .iload 4, 2, [], 0) :: (136, .imul, 1, [], 0) :: (137, .iadd, 1, [], 0) :: (138, .if_icmp .gt 7, 3, [145], 0) :: (141, .iconst 1, 1, [], 0) :: (142, .goto 4, 3, [146], 0) :: c342_145
def c342_118 : List JE := (118, .iconst 0, 1, [], 0) :: (119, .goto 27, 3, [146], 0) :: c342_122
def c342_96 : List JE := (96, .iload 4, 2, [], 0) :: (98, .ifCond .ne 24, 3, [122], 0) :: (101, .aload_n 0, 1, [], 0) :: (102, .getfield 98, 3, [12, 52, 7007, 0], 0) :: (105, .iload_n 1, 1, [], 0) :: (106, .iaload, 1, [], 0) :: (107, .iload 6, 2, [], 0) :: (109, .iload_n 3, 1, [], 0) :: (110, .iadd, 1, [], 0) :: (111, .if_icmp .gt 7, 3, [118], 0) :: (114, .iconst 1, 1, [], 0) :: (115, .goto 31, 3, [146], 0) :: c342_118
def c342_90 : List JE := (90, .iinc 7 1, 3, [], 0) :: (93, .goto (-80), 3, [13], 0) :: c342_96
def c342_58 : List JE := (58, .iload 4, 2, [], 0) :: (60, .aload_n 0, 1, [], 0) :: (61, .getfield 89, 3, [12, 48, 7003, 0], 0) :: (64, .iload 7, 2, [], 0) :: (66, .iaload, 1, [], 0) :: (67, .iadd, 1, [], 0) :: (68, .istore 4, 2, [], 0) :: (70, .iload 5, 2, [], 0) :: (72, .aload_n 0, 1, [], 0) :: (73, .getfield 89, 3, [12, 48, 7003, 0], 0) :: (76, .iload 7, 2, [], 0) :: (78, .iaload, 1, [], 0) :: (79, .aload_n 0, 1, [], 0) :: (80, .getfield 92, 3, [12, 49, 7004, 0], 0) :: (83, .iload 7, 2, [], 0) :: (85, .iaload, 1, [], 0) :: (86, .imul, 1, [], 0) :: (87, .iadd, 1, [], 0) :: (88, .istore 5, 2, [], 0) :: c342_90
def c342_13 : List JE := (13, .iload 7, 2, [], 0) :: (15, .aload_n 0, 1, [], 0) :: (16, .getfield 434, 3, [12, 47, 7002, 0], 0) :: (19, .if_icmp .ge 77, 3, [96], 0) :: (22, .iload 6, 2, [], 0) :: (24, .aload_n 0, 1, [], 0) :: (25, .getfield 92, 3, [12, 49, 7004, 0], 0) :: (28, .iload 7, 2, [], 0) :: (30, .iaload, 1, [], 0) :: (31, .invokestatic 424, 3, [0, 2, 334, 9049, 9050, 1008], 0) :: (34, .istore 6, 2, [], 0) :: (36, .iload_n 2, 1, [], 0) :: (37, .iconst 2, 1, [], 0) :: (38, .aload_n 0, 1, [], 0) :: (39, .getfield 434, 3, [12, 47, 7002, 0], 0) :: (42, .iconst 1, 1, [], 0) :: (43, .isub, 1, [], 0) :: (44, .iload 7, 2, [], 0) :: (46, .isub, 1, [], 0) :: (47, .imul, 1, [], 0) :: (48, .ishr, 1, [], 0) :: (49, .iconst 3, 1, [], 0) :: (50, .iand, 1, [], 0) :: (51, .iload_n 1, 1, [], 0) :: (52, .if_icmp .eq 6, 3, [58], 0) :: (55, .goto 35, 3, [90], 0) :: c342_58
def c342_0 : List JE := (0, .iconst 0, 1, [], 0) :: (1, .istore 4, 2, [], 0) :: (3, .iconst 0, 1, [], 0) :: (4, .istore 5, 2, [], 0) :: (6, .bipush 99, 2, [], 0) :: (8, .istore 6, 2, [], 0) :: (10, .iconst 0, 1, [], 0) :: (11, .istore 7, 2, [], 0) :: c342_13
/-! 343 SueOrSettleModel.holdsFor(III)Z -/
def c343_133 : List JE := (133, .iconst 1, 1, [], 0) :: (134, .ireturn, 1, [1], 0) :: []
def c343_127 : List JE := (127, .iinc 4 1, 3, [], 0) :: (130, .goto (-40), 3, [90], 0) :: c343_133
def c343_122 : List JE := (122, .if_icmp .eq 5, 3, [127], 0) :: (125, .iconst 0, 1, [], 0) :: (126, .ireturn, 1, [1], 0) :: c343_127
def c343_121 : List JE := (121, .iconst 0, 1, [], 0) :: c343_122
def c343_90 : List JE := (90, .iload 4, 2, [], 0) :: (92, .aload_n 0, 1, [], 0) :: (93, .getfield 437, 3, [12, 51, 7006, 0], 0) :: (96, .if_icmp .ge 37, 3, [133], 0) :: (99, .aload_n 0, 1, [], 0) :: (100, .iload 4, 2, [], 0) :: (102, .iload_n 1, 1, [], 0) :: (103, .iload_n 3, 1, [], 0) :: (104, .invokevirtual 443, 3, [5, 3, 342, 12, 9083, 9085, 116, 1008], 0) :: (107, .iload_n 2, 1, [], 0) :: (108, .iload 4, 2, [], 0) :: (110, .ishr, 1, [], 0) :: (111, .iconst 1, 1, [], 0) :: (112, .iand, 1, [], 0) :: (113, .iconst 1, 1, [], 0) :: (114, .if_icmp .ne 7, 3, [121], 0) :: (117, .iconst 1, 1, [], 0) :: (118, .goto 4, 3, [122], 0) :: c343_121
def c343_87 : List JE := (87, .iconst 0, 1, [], 0) :: (88, .istore 4, 2, [], 0) :: c343_90
def c343_81 : List JE := (81, .iinc 4 1, 3, [], 0) :: (84, .goto (-81), 3, [3], 0) :: c343_87
def c343_75 : List JE := (75, .iinc 6 1, 3, [], 0) :: (78, .goto (-35), 3, [43], 0) :: c343_81
def c343_43 : List JE := (43, .iload 6, 2, [], 0) :: (45, .aload_n 0, 1, [], 0) :: (46, .getfield 437, 3, [12, 51, 7006, 0], 0) :: (49, .if_icmp .ge 32, 3, [81], 0) :: (52, .aload_n 0, 1, [], 0) :: (53, .iload 4, 2, [], 0) :: (55, .iload 6, 2, [], 0) :: (57, .iload_n 2, 1, [], 0) :: (58, .invokevirtual 440, 3, [5, 3, 341, 12, 9079, 9081, 115, 1008], 0) :: (61, .aload_n 0, 1, [], 0) :: (62, .iload 4, 2, [], 0) :: (64, .iload 5, 2, [], 0) :: (66, .iload_n 2, 1, [], 0) :: (67, .invokevirtual 440, 3, [5, 3, 341, 12, 9079, 9081, 115, 1008], 0) :: (70, .if_icmp .le 5, 3, [75], 0) :: (73, .iconst 0, 1, [], 0) :: (74, .ireturn, 1, [1], 0) :: c343_75
def c343_40 : List JE := (40, .iconst 0, 1, [], 0) :: (41, .istore 6, 2, [], 0) :: c343_43
def c343_3 : List JE := (3, .iload 4, 2, [], 0) :: (5, .aload_n 0, 1, [], 0) :: (6, .getfield 434, 3, [12, 47, 7002, 0], 0) :: (9, .if_icmp .ge 78, 3, [87], 0) :: (12, .iload_n 1, 1, [], 0) :: (13, .iconst 2, 1, [], 0) :: (14, .aload_n 0, 1, [], 0) :: (15, .getfield 434, 3, [12, 47, 7002, 0], 0) :: (18, .iconst 1, 1, [], 0) :: (19, .isub, 1, [], 0) :: (20, .iload 4, 2, [], 0) :: (22, .isub, 1, [], 0) :: (23, .imul, 1, [], 0) :: (24, .ishr, 1, [], 0) :: (25, .iconst 3, 1, [], 0) :: (26, .iand, 1, [], 0) :: (27, .istore 5, 2, [], 0) :: (29, .iload 5, 2, [], 0) :: (31, .aload_n 0, 1, [], 0) :: (32, .getfield 437, 3, [12, 51, 7006, 0], 0) :: (35, .if_icmp .lt 5, 3, [40], 0) :: (38, .iconst 0, 1, [], 0) :: (39, .ireturn, 1, [1], 0) :: c343_40
def c343_0 : List JE := (0, .iconst 0, 1, [], 0) :: (1, .istore 4, 2, [], 0) :: c343_3
/-! 344 SueOrSettleModel.digitsOf(II)I -/
def c344_31 : List JE := (31, .iload_n 2, 1, [], 0) :: (32, .ireturn, 1, [], 0) :: []
def c344_4 : List JE := (4, .iload_n 3, 1, [], 0) :: (5, .iload_n 1, 1, [], 0) :: (6, .if_icmp .ge 25, 3, [31], 0) :: (9, .iconst 4, 1, [], 0) :: (10, .iload_n 2, 1, [], 0) :: (11, .imul, 1, [], 0) :: (12, .iload_n 0, 1, [], 0) :: (13, .iconst 2, 1, [], 0) :: (14, .iload_n 1, 1, [], 0) :: (15, .iconst 1, 1, [], 0) :: (16, .isub, 1, [], 0) :: (17, .iload_n 3, 1, [], 0) :: (18, .isub, 1, [], 0) :: (19, .imul, 1, [], 0) :: (20, .ishr, 1, [], 0) :: (21, .iconst 3, 1, [], 0) :: (22, .iand, 1, [], 0) :: (23, .iadd, 1, [], 0) :: (24, .istore_n 2, 1, [], 0) :: (25, .iinc 3 1, 3, [], 0) :: (28, .goto (-24), 3, [4], 0) :: c344_31
def c344_0 : List JE := (0, .iconst 0, 1, [], 0) :: (1, .istore_n 2, 1, [], 0) :: (2, .iconst 0, 1, [], 0) :: (3, .istore_n 3, 1, [], 0) :: c344_4
/-! 345 SueOrSettleModel.holds(II)I -/
def c345_134 : List JE := (134, .ireturn, 1, [], 0) :: []
def c345_132 : List JE := (132, .bipush (-2), 2, [], 0) :: c345_134
def c345_124 : List JE := (124, .iload_n 2, 1, [], 0) :: (125, .ifCond .ne 7, 3, [132], 0) :: (128, .iload_n 3, 1, [], 0) :: (129, .goto 5, 3, [134], 0) :: c345_132
def c345_118 : List JE := (118, .iinc 4 1, 3, [], 0) :: (121, .goto (-78), 3, [43], 0) :: c345_124
def c345_112 : List JE := (112, .iinc 5 1, 3, [], 0) :: (115, .goto (-56), 3, [59], 0) :: c345_118
def c345_109 : List JE := (109, .iinc 3 1, 3, [], 0) :: c345_112
def c345_108 : List JE := (108, .ireturn, 1, [], 0) :: c345_109
def c345_106 : List JE := (106, .iload 5, 2, [], 0) :: c345_108
def c345_85 : List JE := (85, .iload_n 2, 1, [], 0) :: (86, .ifCond .le 23, 3, [109], 0) :: (89, .iload_n 2, 1, [], 0) :: (90, .iconst 1, 1, [], 0) :: (91, .if_icmp .ne 15, 3, [106], 0) :: (94, .iload 4, 2, [], 0) :: (96, .aload_n 0, 1, [], 0) :: (97, .getfield 434, 3, [12, 47, 7002, 0], 0) :: (100, .invokestatic 449, 3, [0, 2, 344, 9087, 9088, 1008], 0) :: (103, .goto 5, 3, [108], 0) :: c345_106
def c345_59 : List JE := (59, .iload 5, 2, [], 0) :: (61, .iconst 1, 1, [], 0) :: (62, .aload_n 0, 1, [], 0) :: (63, .getfield 437, 3, [12, 51, 7006, 0], 0) :: (66, .ishl, 1, [], 0) :: (67, .if_icmp .ge 51, 3, [118], 0) :: (70, .aload_n 0, 1, [], 0) :: (71, .iload 4, 2, [], 0) :: (73, .iload 5, 2, [], 0) :: (75, .iload_n 1, 1, [], 0) :: (76, .invokevirtual 446, 3, [5, 3, 343, 12, 9075, 9077, 114, 1008], 0) :: (79, .ifCond .ne 6, 3, [85], 0) :: (82, .goto 30, 3, [112], 0) :: c345_85
def c345_43 : List JE := (43, .iload 4, 2, [], 0) :: (45, .iconst 1, 1, [], 0) :: (46, .iconst 2, 1, [], 0) :: (47, .aload_n 0, 1, [], 0) :: (48, .getfield 434, 3, [12, 47, 7002, 0], 0) :: (51, .imul, 1, [], 0) :: (52, .ishl, 1, [], 0) :: (53, .if_icmp .ge 71, 3, [124], 0) :: (56, .iconst 0, 1, [], 0) :: (57, .istore 5, 2, [], 0) :: c345_59
def c345_38 : List JE := (38, .iconst 0, 1, [], 0) :: (39, .istore_n 3, 1, [], 0) :: (40, .iconst 0, 1, [], 0) :: (41, .istore 4, 2, [], 0) :: c345_43
def c345_35 : List JE := (35, .bipush (-5), 2, [], 0) :: (37, .ireturn, 1, [], 0) :: c345_38
def c345_21 : List JE := (21, .aload_n 0, 1, [], 0) :: (22, .getfield 434, 3, [12, 47, 7002, 0], 0) :: (25, .ifCond .eq 10, 3, [35], 0) :: (28, .aload_n 0, 1, [], 0) :: (29, .getfield 437, 3, [12, 51, 7006, 0], 0) :: (32, .ifCond .ne 6, 3, [38], 0) :: c345_35
def c345_19 : List JE := (19, .iconst (-1), 1, [], 0) :: (20, .ireturn, 1, [], 0) :: c345_21
def c345_0 : List JE := (0, .iload_n 1, 1, [], 0) :: (1, .iconst 0, 1, [], 0) :: (2, .bipush 99, 2, [], 0) :: (4, .invokestatic 145, 3, [0, 3, 242, 7158, 7159, 1008], 0) :: (7, .ifCond .eq 12, 3, [19], 0) :: (10, .iload_n 2, 1, [], 0) :: (11, .iconst 0, 1, [], 0) :: (12, .iconst 2, 1, [], 0) :: (13, .invokestatic 145, 3, [0, 3, 242, 7158, 7159, 1008], 0) :: (16, .ifCond .ne 5, 3, [21], 0) :: c345_19
/-! 346 SueOrSettleModel.clear()I -/
def c346_0 : List JE := (0, .aload_n 0, 1, [], 0) :: (1, .getfield 434, 3, [12, 47, 7002, 0], 0) :: (4, .istore_n 1, 1, [], 0) :: (5, .aload_n 0, 1, [], 0) :: (6, .iconst 0, 1, [], 0) :: (7, .putfield 434, 3, [12, 47, 7002, 0], 0) :: (10, .aload_n 0, 1, [], 0) :: (11, .iconst 0, 1, [], 0) :: (12, .putfield 437, 3, [12, 51, 7006, 0], 0) :: (15, .iload_n 1, 1, [], 0) :: (16, .ireturn, 1, [], 0) :: []
/-! 347 SueOrSettleModel.effort(II)I -/
def c347_33 : List JE := (33, .aload_n 0, 1, [], 0) :: (34, .getfield 101, 3, [12, 54, 7009, 0], 0) :: (37, .aload_n 0, 1, [], 0) :: (38, .getfield 452, 3, [12, 53, 7008, 0], 0) :: (41, .iload_n 1, 1, [], 0) :: (42, .iastore, 1, [], 0) :: (43, .aload_n 0, 1, [], 0) :: (44, .getfield 104, 3, [12, 55, 7010, 0], 0) :: (47, .aload_n 0, 1, [], 0) :: (48, .getfield 452, 3, [12, 53, 7008, 0], 0) :: (51, .iload_n 2, 1, [], 0) :: (52, .iastore, 1, [], 0) :: (53, .aload_n 0, 1, [], 0) :: (54, .dup, 1, [], 0) :: (55, .getfield 452, 3, [12, 53, 7008, 0], 0) :: (58, .iconst 1, 1, [], 0) :: (59, .iadd, 1, [], 0) :: (60, .putfield 452, 3, [12, 53, 7008, 0], 0) :: (63, .aload_n 0, 1, [], 0) :: (64, .getfield 452, 3, [12, 53, 7008, 0], 0) :: (67, .ireturn, 1, [], 0) :: []
def c347_22 : List JE := (22, .aload_n 0, 1, [], 0) :: (23, .getfield 452, 3, [12, 53, 7008, 0], 0) :: (26, .iconst 4, 1, [], 0) :: (27, .if_icmp .ne 6, 3, [33], 0) :: (30, .bipush (-3), 2, [], 0) :: (32, .ireturn, 1, [], 0) :: c347_33
def c347_20 : List JE := (20, .iconst (-1), 1, [], 0) :: (21, .ireturn, 1, [], 0) :: c347_22
def c347_0 : List JE := (0, .iload_n 1, 1, [], 0) :: (1, .iconst 0, 1, [], 0) :: (2, .bipush 99, 2, [], 0) :: (4, .invokestatic 145, 3, [0, 3, 242, 7158, 7159, 1008], 0) :: (7, .ifCond .eq 13, 3, [20], 0) :: (10, .iload_n 2, 1, [], 0) :: (11, .iconst 0, 1, [], 0) :: (12, .bipush 100, 2, [], 0) :: (14, .invokestatic 145, 3, [0, 3, 242, 7158, 7159, 1008], 0) :: (17, .ifCond .ne 5, 3, [22], 0) :: c347_20
/-! 348 SueOrSettleModel.effortFor(II)I -/
def c348_70 : List JE := (70, .iload_n 3, 1, [], 0) :: (71, .ireturn, 1, [], 0) :: []
def c348_64 : List JE := (64, .iinc 5 1, 3, [], 0) :: (67, .goto (-59), 3, [8], 0) :: c348_70
def c348_57 : List JE := (57, .iload 5, 2, [], 0) :: (59, .istore_n 3, 1, [], 0) :: (60, .iload 6, 2, [], 0) :: (62, .istore 4, 2, [], 0) :: c348_64
def c348_8 : List JE := (8, .iload 5, 2, [], 0) :: (10, .aload_n 0, 1, [], 0) :: (11, .getfield 452, 3, [12, 53, 7008, 0], 0) :: (14, .if_icmp .ge 56, 3, [70], 0) :: (17, .iload_n 1, 1, [], 0) :: (18, .iload_n 2, 1, [], 0) :: (19, .imul, 1, [], 0) :: (20, .aload_n 0, 1, [], 0) :: (21, .getfield 104, 3, [12, 55, 7010, 0], 0) :: (24, .iload 5, 2, [], 0) :: (26, .iaload, 1, [], 0) :: (27, .imul, 1, [], 0) :: (28, .sipush 10000, 3, [], 0) :: (31, .aload_n 0, 1, [], 0) :: (32, .getfield 101, 3, [12, 54, 7009, 0], 0) :: (35, .iload 5, 2, [], 0) :: (37, .iaload, 1, [], 0) :: (38, .imul, 1, [], 0) :: (39, .isub, 1, [], 0) :: (40, .istore 6, 2, [], 0) :: (42, .iload 5, 2, [], 0) :: (44, .ifCond .le 13, 3, [57], 0) :: (47, .iload 6, 2, [], 0) :: (49, .iload 4, 2, [], 0) :: (51, .if_icmp .gt 6, 3, [57], 0) :: (54, .goto 10, 3, [64], 0) :: c348_57
def c348_0 : List JE := (0, .iconst 0, 1, [], 0) :: (1, .istore_n 3, 1, [], 0) :: (2, .iconst 0, 1, [], 0) :: (3, .istore 4, 2, [], 0) :: (5, .iconst 0, 1, [], 0) :: (6, .istore 5, 2, [], 0) :: c348_8
/-! 349 SueOrSettleModel.hired(II)I -/
def c349_130 : List JE := (130, .iload 4, 2, [], 0) :: (132, .i2l, 1, [], 0) :: (133, .ldc2_w 458, 3, [9106], 10000) :: (136, .iload_n 2, 1, [], 0) :: (137, .iconst 2, 1, [], 0) :: (138, .isub, 1, [], 0) :: (139, .invokestatic 212, 3, [0, 3, 244, 7231, 7232, 1008], 0) :: (142, .l2i, 1, [], 0) :: (143, .ireturn, 1, [], 0) :: []
def c349_129 : List JE := (129, .ireturn, 1, [], 0) :: c349_130
def c349_123 : List JE := (123, .aload_n 0, 1, [], 0) :: (124, .iload_n 3, 1, [], 0) :: (125, .iload_n 1, 1, [], 0) :: (126, .invokevirtual 455, 3, [5, 2, 348, 12, 9102, 9104, 117, 1008], 0) :: c349_129
def c349_110 : List JE := (110, .iload_n 2, 1, [], 0) :: (111, .iconst 2, 1, [], 0) :: (112, .if_icmp .ge 18, 3, [130], 0) :: (115, .iload_n 2, 1, [], 0) :: (116, .ifCond .ne 7, 3, [123], 0) :: (119, .iload_n 3, 1, [], 0) :: (120, .goto 9, 3, [129], 0) :: c349_123
def c349_104 : List JE := (104, .iinc 5 1, 3, [], 0) :: (107, .goto (-49), 3, [58], 0) :: c349_110
def c349_97 : List JE := (97, .iload 5, 2, [], 0) :: (99, .istore_n 3, 1, [], 0) :: (100, .iload 6, 2, [], 0) :: (102, .istore 4, 2, [], 0) :: c349_104
def c349_58 : List JE := (58, .iload 5, 2, [], 0) :: (60, .bipush 100, 2, [], 0) :: (62, .if_icmp .gt 48, 3, [110], 0) :: (65, .bipush 100, 2, [], 0) :: (67, .iload 5, 2, [], 0) :: (69, .isub, 1, [], 0) :: (70, .iload_n 1, 1, [], 0) :: (71, .imul, 1, [], 0) :: (72, .aload_n 0, 1, [], 0) :: (73, .getfield 104, 3, [12, 55, 7010, 0], 0) :: (76, .aload_n 0, 1, [], 0) :: (77, .iload 5, 2, [], 0) :: (79, .iload_n 1, 1, [], 0) :: (80, .invokevirtual 455, 3, [5, 2, 348, 12, 9102, 9104, 117, 1008], 0) :: (83, .iaload, 1, [], 0) :: (84, .imul, 1, [], 0) :: (85, .istore 6, 2, [], 0) :: (87, .iload 6, 2, [], 0) :: (89, .iload 4, 2, [], 0) :: (91, .if_icmp .gt 6, 3, [97], 0) :: (94, .goto 10, 3, [104], 0) :: c349_97
def c349_50 : List JE := (50, .iconst 0, 1, [], 0) :: (51, .istore_n 3, 1, [], 0) :: (52, .iconst (-1), 1, [], 0) :: (53, .istore 4, 2, [], 0) :: (55, .iconst 0, 1, [], 0) :: (56, .istore 5, 2, [], 0) :: c349_58
def c349_39 : List JE := (39, .aload_n 0, 1, [], 0) :: (40, .getfield 452, 3, [12, 53, 7008, 0], 0) :: (43, .iconst 2, 1, [], 0) :: (44, .if_icmp .ge 6, 3, [50], 0) :: (47, .bipush (-5), 2, [], 0) :: (49, .ireturn, 1, [], 0) :: c349_50
def c349_22 : List JE := (22, .iload_n 2, 1, [], 0) :: (23, .iconst (-1), 1, [], 0) :: (24, .if_icmp .ne 15, 3, [39], 0) :: (27, .aload_n 0, 1, [], 0) :: (28, .getfield 452, 3, [12, 53, 7008, 0], 0) :: (31, .istore_n 3, 1, [], 0) :: (32, .aload_n 0, 1, [], 0) :: (33, .iconst 0, 1, [], 0) :: (34, .putfield 452, 3, [12, 53, 7008, 0], 0) :: (37, .iload_n 3, 1, [], 0) :: (38, .ireturn, 1, [], 0) :: c349_39
def c349_20 : List JE := (20, .iconst (-1), 1, [], 0) :: (21, .ireturn, 1, [], 0) :: c349_22
def c349_0 : List JE := (0, .iload_n 1, 1, [], 0) :: (1, .iconst 0, 1, [], 0) :: (2, .sipush 999, 3, [], 0) :: (5, .invokestatic 145, 3, [0, 3, 242, 7158, 7159, 1008], 0) :: (8, .ifCond .eq 12, 3, [20], 0) :: (11, .iload_n 2, 1, [], 0) :: (12, .iconst (-1), 1, [], 0) :: (13, .iconst 3, 1, [], 0) :: (14, .invokestatic 145, 3, [0, 3, 242, 7158, 7159, 1008], 0) :: (17, .ifCond .ne 5, 3, [22], 0) :: c349_20
/-! 350 SueOrSettleModel.isDay(III)Z -/
def c350_36 : List JE := (36, .ireturn, 1, [1], 0) :: []
def c350_35 : List JE := (35, .iconst 0, 1, [], 0) :: c350_36
def c350_0 : List JE := (0, .iload_n 0, 1, [], 0) :: (1, .iconst 0, 1, [], 0) :: (2, .sipush 999, 3, [], 0) :: (5, .invokestatic 145, 3, [0, 3, 242, 7158, 7159, 1008], 0) :: (8, .ifCond .eq 27, 3, [35], 0) :: (11, .iload_n 1, 1, [], 0) :: (12, .iconst 0, 1, [], 0) :: (13, .bipush 100, 2, [], 0) :: (15, .invokestatic 145, 3, [0, 3, 242, 7158, 7159, 1008], 0) :: (18, .ifCond .eq 17, 3, [35], 0) :: (21, .iload_n 2, 1, [], 0) :: (22, .iconst 0, 1, [], 0) :: (23, .bipush 99, 2, [], 0) :: (25, .invokestatic 145, 3, [0, 3, 242, 7158, 7159, 1008], 0) :: (28, .ifCond .eq 7, 3, [35], 0) :: (31, .iconst 1, 1, [], 0) :: (32, .goto 4, 3, [36], 0) :: c350_35
/-! 351 SueOrSettleModel.day(IIII)I -/
def c351_22 : List JE := (22, .aload_n 0, 1, [], 0) :: (23, .getfield 107, 3, [12, 56, 7011, 0], 0) :: (26, .iload_n 1, 1, [], 0) :: (27, .iload_n 2, 1, [], 0) :: (28, .iastore, 1, [], 0) :: (29, .aload_n 0, 1, [], 0) :: (30, .getfield 110, 3, [12, 57, 7012, 0], 0) :: (33, .iload_n 1, 1, [], 0) :: (34, .iload_n 3, 1, [], 0) :: (35, .iastore, 1, [], 0) :: (36, .aload_n 0, 1, [], 0) :: (37, .getfield 113, 3, [12, 58, 7013, 0], 0) :: (40, .iload_n 1, 1, [], 0) :: (41, .iload 4, 2, [], 0) :: (43, .iastore, 1, [], 0) :: (44, .iconst 1, 1, [], 0) :: (45, .ireturn, 1, [], 0) :: []
def c351_20 : List JE := (20, .iconst (-1), 1, [], 0) :: (21, .ireturn, 1, [], 0) :: c351_22
def c351_0 : List JE := (0, .iload_n 1, 1, [], 0) :: (1, .iconst 0, 1, [], 0) :: (2, .bipush 19, 2, [], 0) :: (4, .invokestatic 145, 3, [0, 3, 242, 7158, 7159, 1008], 0) :: (7, .ifCond .eq 13, 3, [20], 0) :: (10, .iload_n 2, 1, [], 0) :: (11, .iload_n 3, 1, [], 0) :: (12, .iload 4, 2, [], 0) :: (14, .invokestatic 460, 3, [0, 3, 350, 9111, 9112, 1008], 0) :: (17, .ifCond .ne 5, 3, [22], 0) :: c351_20
/-! 352 SueOrSettleModel.days(III)I -/
def c352_203 : List JE := (203, .iload_n 3, 1, [], 0) :: (204, .ireturn, 1, [], 0) :: []
def c352_148 : List JE := (148, .aload_n 0, 1, [], 0) :: (149, .getfield 107, 3, [12, 56, 7011, 0], 0) :: (152, .iload 4, 2, [], 0) :: (154, .aload_n 0, 1, [], 0) :: (155, .getfield 128, 3, [12, 64, 7019, 0], 0) :: (158, .iload 7, 2, [], 0) :: (160, .laload, 1, [], 0) :: (161, .l2i, 1, [], 0) :: (162, .iastore, 1, [], 0) :: (163, .aload_n 0, 1, [], 0) :: (164, .getfield 110, 3, [12, 57, 7012, 0], 0) :: (167, .iload 4, 2, [], 0) :: (169, .aload_n 0, 1, [], 0) :: (170, .getfield 128, 3, [12, 64, 7019, 0], 0) :: (173, .iload 7, 2, [], 0) :: (175, .iconst 1, 1, [], 0) :: (176, .iadd, 1, [], 0) :: (177, .laload, 1, [], 0) :: (178, .l2i, 1, [], 0) :: (179, .iastore, 1, [], 0) :: (180, .aload_n 0, 1, [], 0) :: (181, .getfield 113, 3, [12, 58, 7013, 0], 0) :: (184, .iload 4, 2, [], 0) :: (186, .aload_n 0, 1, [], 0) :: (187, .getfield 128, 3, [12, 64, 7019, 0], 0) :: (190, .iload 7, 2, [], 0) :: (192, .iconst 2, 1, [], 0) :: (193, .iadd, 1, [], 0) :: (194, .laload, 1, [], 0) :: (195, .l2i, 1, [], 0) :: (196, .iastore, 1, [], 0) :: (197, .iinc 4 1, 3, [], 0) :: (200, .goto (-142), 3, [58], 0) :: c352_203
def c352_101 : List JE := (101, .bipush 60, 2, [], 0) :: (103, .iload_n 1, 1, [], 0) :: (104, .imul, 1, [], 0) :: (105, .lload 5, 2, [], 0) :: (107, .l2i, 1, [], 0) :: (108, .iadd, 1, [], 0) :: (109, .istore 7, 2, [], 0) :: (111, .aload_n 0, 1, [], 0) :: (112, .getfield 128, 3, [12, 64, 7019, 0], 0) :: (115, .iload 7, 2, [], 0) :: (117, .laload, 1, [], 0) :: (118, .l2i, 1, [], 0) :: (119, .aload_n 0, 1, [], 0) :: (120, .getfield 128, 3, [12, 64, 7019, 0], 0) :: (123, .iload 7, 2, [], 0) :: (125, .iconst 1, 1, [], 0) :: (126, .iadd, 1, [], 0) :: (127, .laload, 1, [], 0) :: (128, .l2i, 1, [], 0) :: (129, .aload_n 0, 1, [], 0) :: (130, .getfield 128, 3, [12, 64, 7019, 0], 0) :: (133, .iload 7, 2, [], 0) :: (135, .iconst 2, 1, [], 0) :: (136, .iadd, 1, [], 0) :: (137, .laload, 1, [], 0) :: (138, .l2i, 1, [], 0) :: (139, .invokestatic 460, 3, [0, 3, 350, 9111, 9112, 1008], 0) :: (142, .ifCond .ne 6, 3, [148], 0) :: (145, .iload 4, 2, [], 0) :: (147, .ireturn, 1, [], 0) :: c352_148
def c352_98 : List JE := (98, .iload 4, 2, [], 0) :: (100, .ireturn, 1, [], 0) :: c352_101
def c352_58 : List JE := (58, .iload 4, 2, [], 0) :: (60, .iload_n 3, 1, [], 0) :: (61, .if_icmp .ge 142, 3, [203], 0) :: (64, .iload_n 2, 1, [], 0) :: (65, .i2l, 1, [], 0) :: (66, .iconst 3, 1, [], 0) :: (67, .iload 4, 2, [], 0) :: (69, .imul, 1, [], 0) :: (70, .i2l, 1, [], 0) :: (71, .ladd, 1, [], 0) :: (72, .lstore 5, 2, [], 0) :: (74, .lload 5, 2, [], 0) :: (76, .lconst 0, 1, [], 0) :: (77, .lcmp, 1, [], 0) :: (78, .ifCond .lt 20, 3, [98], 0) :: (81, .lload 5, 2, [], 0) :: (83, .ldc2_w 466, 3, [9121], 2) :: (86, .ladd, 1, [], 0) :: (87, .aload_n 0, 1, [], 0) :: (88, .getfield 125, 3, [12, 63, 7018, 0], 0) :: (91, .iload_n 1, 1, [], 0) :: (92, .iaload, 1, [], 0) :: (93, .i2l, 1, [], 0) :: (94, .lcmp, 1, [], 0) :: (95, .ifCond .lt 6, 3, [101], 0) :: c352_98
def c352_55 : List JE := (55, .iconst 0, 1, [], 0) :: (56, .istore 4, 2, [], 0) :: c352_58
def c352_43 : List JE := (43, .aload_n 0, 1, [], 0) :: (44, .getfield 122, 3, [12, 62, 7017, 0], 0) :: (47, .iload_n 1, 1, [], 0) :: (48, .iaload, 1, [], 0) :: (49, .iconst (-1), 1, [], 0) :: (50, .if_icmp .ne 5, 3, [55], 0) :: (53, .iconst 0, 1, [], 0) :: (54, .ireturn, 1, [], 0) :: c352_55
def c352_19 : List JE := (19, .aload_n 0, 1, [], 0) :: (20, .getfield 122, 3, [12, 62, 7017, 0], 0) :: (23, .iload_n 1, 1, [], 0) :: (24, .iaload, 1, [], 0) :: (25, .iconst (-1), 1, [], 0) :: (26, .if_icmp .eq 17, 3, [43], 0) :: (29, .aload_n 0, 1, [], 0) :: (30, .getfield 122, 3, [12, 62, 7017, 0], 0) :: (33, .iload_n 1, 1, [], 0) :: (34, .iaload, 1, [], 0) :: (35, .bipush (-3), 2, [], 0) :: (37, .if_icmp .eq 6, 3, [43], 0) :: (40, .bipush (-12), 2, [], 0) :: (42, .ireturn, 1, [], 0) :: c352_43
def c352_17 : List JE := (17, .iconst (-1), 1, [], 0) :: (18, .ireturn, 1, [], 0) :: c352_19
def c352_0 : List JE := (0, .iload_n 1, 1, [], 0) :: (1, .invokestatic 463, 3, [0, 1, 370, 9118, 9119, 1008], 0) :: (4, .ifCond .eq 13, 3, [17], 0) :: (7, .iload_n 3, 1, [], 0) :: (8, .iconst 1, 1, [], 0) :: (9, .bipush 20, 2, [], 0) :: (11, .invokestatic 145, 3, [0, 3, 242, 7158, 7159, 1008], 0) :: (14, .ifCond .ne 5, 3, [19], 0) :: c352_17
/-! 353 SueOrSettleModel.waits(III)J -/
def c353_220 : List JE := (220, .lreturn, 1, [], 0) :: []
def c353_218 : List JE := (218, .lload 10, 2, [], 0) :: c353_220
def c353_203 : List JE := (203, .lload 10, 2, [], 0) :: (205, .ldc2_w 470, 3, [9127], 1000) :: (208, .lcmp, 1, [], 0) :: (209, .ifCond .le 9, 3, [218], 0) :: (212, .ldc2_w 470, 3, [9127], 1000) :: (215, .goto 5, 3, [220], 0) :: c353_218
def c353_180 : List JE := (180, .lload 8, 2, [], 0) :: (182, .lneg, 1, [], 0) :: (183, .ldc2_w 468, 3, [9126], 1000000) :: (186, .invokestatic 406, 3, [0, 2, 378, 9028, 6019, 1010], 0) :: (189, .lneg, 1, [], 0) :: (190, .lstore 10, 2, [], 0) :: (192, .lload 10, 2, [], 0) :: (194, .lconst 0, 1, [], 0) :: (195, .lcmp, 1, [], 0) :: (196, .ifCond .ge 7, 3, [203], 0) :: (199, .lconst 0, 1, [], 0) :: (200, .goto 20, 3, [220], 0) :: c353_203
def c353_172 : List JE := (172, .iload_n 3, 1, [], 0) :: (173, .iconst 1, 1, [], 0) :: (174, .if_icmp .ne 6, 3, [180], 0) :: (177, .lload 6, 2, [], 0) :: (179, .lreturn, 1, [], 0) :: c353_180
def c353_130 : List JE := (130, .lstore 13, 2, [], 0) :: (132, .aload_n 0, 1, [], 0) :: (133, .getfield 110, 3, [12, 57, 7012, 0], 0) :: (136, .iload 10, 2, [], 0) :: (138, .iaload, 1, [], 0) :: (139, .i2l, 1, [], 0) :: (140, .lload 13, 2, [], 0) :: (142, .lmul, 1, [], 0) :: (143, .bipush 100, 2, [], 0) :: (145, .aload_n 0, 1, [], 0) :: (146, .getfield 110, 3, [12, 57, 7012, 0], 0) :: (149, .iload 10, 2, [], 0) :: (151, .iaload, 1, [], 0) :: (152, .isub, 1, [], 0) :: (153, .i2l, 1, [], 0) :: (154, .lload 8, 2, [], 0) :: (156, .lmul, 1, [], 0) :: (157, .ladd, 1, [], 0) :: (158, .ldc2_w 337, 3, [8152], 100) :: (161, .invokestatic 406, 3, [0, 2, 378, 9028, 6019, 1010], 0) :: (164, .lstore 6, 2, [], 0) :: (166, .iinc 10 (-1), 3, [], 0) :: (169, .goto (-92), 3, [77], 0) :: c353_172
def c353_128 : List JE := (128, .lload 8, 2, [], 0) :: c353_130
def c353_77 : List JE := (77, .iload 10, 2, [], 0) :: (79, .iload 4, 2, [], 0) :: (81, .if_icmp .lt 91, 3, [172], 0) :: (84, .lload 6, 2, [], 0) :: (86, .ldc2_w 468, 3, [9126], 1000000) :: (89, .aload_n 0, 1, [], 0) :: (90, .getfield 113, 3, [12, 58, 7013, 0], 0) :: (93, .iload 10, 2, [], 0) :: (95, .iaload, 1, [], 0) :: (96, .i2l, 1, [], 0) :: (97, .lmul, 1, [], 0) :: (98, .lsub, 1, [], 0) :: (99, .lstore 8, 2, [], 0) :: (101, .ldc2_w 468, 3, [9126], 1000000) :: (104, .aload_n 0, 1, [], 0) :: (105, .getfield 107, 3, [12, 56, 7011, 0], 0) :: (108, .iload 10, 2, [], 0) :: (110, .iaload, 1, [], 0) :: (111, .i2l, 1, [], 0) :: (112, .lmul, 1, [], 0) :: (113, .lstore 11, 2, [], 0) :: (115, .lload 11, 2, [], 0) :: (117, .lload 8, 2, [], 0) :: (119, .lcmp, 1, [], 0) :: (120, .ifCond .le 8, 3, [128], 0) :: (123, .lload 11, 2, [], 0) :: (125, .goto 5, 3, [130], 0) :: c353_128
def c353_60 : List JE := (60, .ldc2_w 468, 3, [9126], 1000000) :: (63, .iload_n 2, 1, [], 0) :: (64, .i2l, 1, [], 0) :: (65, .lmul, 1, [], 0) :: (66, .lstore 6, 2, [], 0) :: (68, .lconst 0, 1, [], 0) :: (69, .lstore 8, 2, [], 0) :: (71, .iload 5, 2, [], 0) :: (73, .iconst 1, 1, [], 0) :: (74, .isub, 1, [], 0) :: (75, .istore 10, 2, [], 0) :: c353_77
def c353_56 : List JE := (56, .ldc2_w 339, 3, [8115], (-9223372036854775808)) :: (59, .lreturn, 1, [], 0) :: c353_60
def c353_0 : List JE := (0, .iload_n 1, 1, [], 0) :: (1, .bipush 100, 2, [], 0) :: (3, .idiv, 1, [], 0) :: (4, .istore 4, 2, [], 0) :: (6, .iload_n 1, 1, [], 0) :: (7, .bipush 100, 2, [], 0) :: (9, .irem, 1, [], 0) :: (10, .istore 5, 2, [], 0) :: (12, .iload_n 1, 1, [], 0) :: (13, .ifCond .lt 43, 3, [56], 0) :: (16, .iload 5, 2, [], 0) :: (18, .iconst 1, 1, [], 0) :: (19, .bipush 20, 2, [], 0) :: (21, .invokestatic 145, 3, [0, 3, 242, 7158, 7159, 1008], 0) :: (24, .ifCond .eq 32, 3, [56], 0) :: (27, .iload 4, 2, [], 0) :: (29, .iload 5, 2, [], 0) :: (31, .if_icmp .ge 25, 3, [56], 0) :: (34, .iload_n 2, 1, [], 0) :: (35, .sipush (-999), 3, [], 0) :: (38, .sipush 999, 3, [], 0) :: (41, .invokestatic 145, 3, [0, 3, 242, 7158, 7159, 1008], 0) :: (44, .ifCond .eq 12, 3, [56], 0) :: (47, .iload_n 3, 1, [], 0) :: (48, .iconst 0, 1, [], 0) :: (49, .iconst 1, 1, [], 0) :: (50, .invokestatic 145, 3, [0, 3, 242, 7158, 7159, 1008], 0) :: (53, .ifCond .ne 7, 3, [60], 0) :: c353_56
/-! 354 SueOrSettleModel.run(III)I -/
def c354_284 : List JE := (284, .iload 5, 2, [], 0) :: (286, .ireturn, 1, [], 0) :: []
def c354_266 : List JE := (266, .iload 5, 2, [], 0) :: (268, .aload_n 0, 1, [], 0) :: (269, .getfield 35, 3, [12, 12, 6207, 0], 0) :: (272, .iload 7, 2, [], 0) :: (274, .iaload, 1, [], 0) :: (275, .iadd, 1, [], 0) :: (276, .istore 5, 2, [], 0) :: (278, .iinc 6 1, 3, [], 0) :: (281, .goto (-249), 3, [32], 0) :: c354_284
def c354_225 : List JE := (225, .istore 8, 2, [], 0) :: (227, .iload 5, 2, [], 0) :: (229, .aload_n 0, 1, [], 0) :: (230, .getfield 41, 3, [12, 14, 6209, 0], 0) :: (233, .iconst 4, 1, [], 0) :: (234, .iload 7, 2, [], 0) :: (236, .imul, 1, [], 0) :: (237, .iload 8, 2, [], 0) :: (239, .iadd, 1, [], 0) :: (240, .iaload, 1, [], 0) :: (241, .isub, 1, [], 0) :: (242, .istore 5, 2, [], 0) :: (244, .bipush 100, 2, [], 0) :: (246, .iload_n 1, 1, [], 0) :: (247, .imul, 1, [], 0) :: (248, .aload_n 0, 1, [], 0) :: (249, .getfield 38, 3, [12, 13, 6208, 0], 0) :: (252, .iconst 4, 1, [], 0) :: (253, .iload 7, 2, [], 0) :: (255, .imul, 1, [], 0) :: (256, .iload 8, 2, [], 0) :: (258, .iadd, 1, [], 0) :: (259, .baload, 1, [22], 0) :: (260, .iadd, 1, [], 0) :: (261, .istore 7, 2, [], 0) :: (263, .goto (-81), 3, [182], 0) :: c354_266
def c354_213 : List JE := (213, .aload_n 0, 1, [], 0) :: (214, .getfield 116, 3, [12, 59, 7014, 0], 0) :: (217, .aload_n 0, 1, [], 0) :: (218, .getfield 35, 3, [12, 12, 6207, 0], 0) :: (221, .iload 7, 2, [], 0) :: (223, .iaload, 1, [], 0) :: (224, .iaload, 1, [], 0) :: c354_225
def c354_182 : List JE := (182, .aload_n 0, 1, [], 0) :: (183, .getfield 31, 3, [12, 11, 6206, 0], 0) :: (186, .iload 7, 2, [], 0) :: (188, .baload, 1, [22], 0) :: (189, .ifCond .eq 77, 3, [266], 0) :: (192, .aload_n 0, 1, [], 0) :: (193, .getfield 31, 3, [12, 11, 6206, 0], 0) :: (196, .iload 7, 2, [], 0) :: (198, .baload, 1, [22], 0) :: (199, .iconst 1, 1, [], 0) :: (200, .if_icmp .ne 13, 3, [213], 0) :: (203, .aload_n 0, 1, [], 0) :: (204, .getfield 44, 3, [12, 15, 6210, 0], 0) :: (207, .iload 7, 2, [], 0) :: (209, .baload, 1, [22], 0) :: (210, .goto 15, 3, [225], 0) :: c354_213
def c354_176 : List JE := (176, .bipush 100, 2, [], 0) :: (178, .iload_n 1, 1, [], 0) :: (179, .imul, 1, [], 0) :: (180, .istore 7, 2, [], 0) :: c354_182
def c354_161 : List JE := (161, .aload_n 0, 1, [], 0) :: (162, .getfield 116, 3, [12, 59, 7014, 0], 0) :: (165, .iload 7, 2, [], 0) :: (167, .iload 10, 2, [], 0) :: (169, .iastore, 1, [], 0) :: (170, .iinc 7 1, 3, [], 0) :: (173, .goto (-132), 3, [41], 0) :: c354_176
def c354_109 : List JE := (109, .iload 9, 2, [], 0) :: (111, .aload_n 0, 1, [], 0) :: (112, .getfield 18, 3, [12, 4, 6199, 0], 0) :: (115, .bipush 9, 2, [], 0) :: (117, .iload 7, 2, [], 0) :: (119, .imul, 1, [], 0) :: (120, .iconst 3, 1, [], 0) :: (121, .iload 8, 2, [], 0) :: (123, .imul, 1, [], 0) :: (124, .iadd, 1, [], 0) :: (125, .iload 10, 2, [], 0) :: (127, .iadd, 1, [], 0) :: (128, .iaload, 1, [], 0) :: (129, .if_icmp .lt 32, 3, [161], 0) :: (132, .iload 9, 2, [], 0) :: (134, .aload_n 0, 1, [], 0) :: (135, .getfield 18, 3, [12, 4, 6199, 0], 0) :: (138, .bipush 9, 2, [], 0) :: (140, .iload 7, 2, [], 0) :: (142, .imul, 1, [], 0) :: (143, .iconst 3, 1, [], 0) :: (144, .iload 8, 2, [], 0) :: (146, .imul, 1, [], 0) :: (147, .iadd, 1, [], 0) :: (148, .iload 10, 2, [], 0) :: (150, .iadd, 1, [], 0) :: (151, .iaload, 1, [], 0) :: (152, .isub, 1, [], 0) :: (153, .istore 9, 2, [], 0) :: (155, .iinc 10 1, 3, [], 0) :: (158, .goto (-49), 3, [109], 0) :: c354_161
def c354_76 : List JE := (76, .istore 8, 2, [], 0) :: (78, .iload 4, 2, [], 0) :: (80, .ldc_w 472, 3, [9132], 1103515245) :: (83, .imul, 1, [], 0) :: (84, .sipush 12345, 3, [], 0) :: (87, .iadd, 1, [], 0) :: (88, .istore 4, 2, [], 0) :: (90, .iload 4, 2, [], 0) :: (92, .bipush 8, 2, [], 0) :: (94, .iushr, 1, [], 0) :: (95, .aload_n 0, 1, [], 0) :: (96, .iload 7, 2, [], 0) :: (98, .iload 8, 2, [], 0) :: (100, .invokevirtual 173, 3, [5, 2, 251, 12, 7197, 7199, 63, 1008], 0) :: (103, .irem, 1, [], 0) :: (104, .istore 9, 2, [], 0) :: (106, .iconst 0, 1, [], 0) :: (107, .istore 10, 2, [], 0) :: c354_109
def c354_64 : List JE := (64, .aload_n 0, 1, [], 0) :: (65, .getfield 116, 3, [12, 59, 7014, 0], 0) :: (68, .aload_n 0, 1, [], 0) :: (69, .getfield 15, 3, [12, 3, 6198, 0], 0) :: (72, .iload 7, 2, [], 0) :: (74, .iaload, 1, [], 0) :: (75, .iaload, 1, [], 0) :: c354_76
def c354_41 : List JE := (41, .iload 7, 2, [], 0) :: (43, .aload_n 0, 1, [], 0) :: (44, .getfield 142, 3, [12, 1, 6196, 0], 0) :: (47, .if_icmp .ge 129, 3, [176], 0) :: (50, .aload_n 0, 1, [], 0) :: (51, .getfield 15, 3, [12, 3, 6198, 0], 0) :: (54, .iload 7, 2, [], 0) :: (56, .iaload, 1, [], 0) :: (57, .ifCond .ge 7, 3, [64], 0) :: (60, .iconst 0, 1, [], 0) :: (61, .goto 15, 3, [76], 0) :: c354_64
def c354_32 : List JE := (32, .iload 6, 2, [], 0) :: (34, .iload_n 3, 1, [], 0) :: (35, .if_icmp .ge 249, 3, [284], 0) :: (38, .iconst 0, 1, [], 0) :: (39, .istore 7, 2, [], 0) :: c354_41
def c354_23 : List JE := (23, .iload_n 2, 1, [], 0) :: (24, .istore 4, 2, [], 0) :: (26, .iconst 0, 1, [], 0) :: (27, .istore 5, 2, [], 0) :: (29, .iconst 0, 1, [], 0) :: (30, .istore 6, 2, [], 0) :: c354_32
def c354_19 : List JE := (19, .ldc_w 266, 3, [8050], (-2000000000)) :: (22, .ireturn, 1, [], 0) :: c354_23
def c354_0 : List JE := (0, .aload_n 0, 1, [], 0) :: (1, .iload_n 1, 1, [], 0) :: (2, .invokevirtual 216, 3, [5, 1, 261, 12, 8046, 8048, 78, 1008], 0) :: (5, .ifCond .eq 14, 3, [19], 0) :: (8, .iload_n 3, 1, [], 0) :: (9, .iconst 1, 1, [], 0) :: (10, .sipush 200, 3, [], 0) :: (13, .invokestatic 145, 3, [0, 3, 242, 7158, 7159, 1008], 0) :: (16, .ifCond .ne 7, 3, [23], 0) :: c354_19
/-! 355 SueOrSettleModel.isUnder(II)Z -/
def c355_34 : List JE := (34, .ireturn, 1, [1], 0) :: []
def c355_33 : List JE := (33, .iconst 0, 1, [], 0) :: c355_34
def c355_29 : List JE := (29, .iconst 1, 1, [], 0) :: (30, .goto 4, 3, [34], 0) :: c355_33
def c355_19 : List JE := (19, .iload_n 1, 1, [], 0) :: (20, .iconst 4, 1, [], 0) :: (21, .if_icmp .ne 12, 3, [33], 0) :: (24, .iload_n 0, 1, [], 0) :: (25, .iconst 5, 1, [], 0) :: (26, .if_icmp .ne 7, 3, [33], 0) :: c355_29
def c355_0 : List JE := (0, .iload_n 1, 1, [], 0) :: (1, .ifCond .eq 28, 3, [29], 0) :: (4, .iload_n 0, 1, [], 0) :: (5, .iload_n 1, 1, [], 0) :: (6, .if_icmp .eq 23, 3, [29], 0) :: (9, .iload_n 1, 1, [], 0) :: (10, .iconst 1, 1, [], 0) :: (11, .if_icmp .ne 8, 3, [19], 0) :: (14, .iload_n 0, 1, [], 0) :: (15, .iconst 3, 1, [], 0) :: (16, .if_icmp .eq 13, 3, [29], 0) :: c355_19
/-! 356 SueOrSettleModel.ran(I)V -/
def c356_19 : List JE := (19, .aload_n 0, 1, [], 0) :: (20, .dup, 1, [], 0) :: (21, .getfield 473, 3, [12, 60, 7015, 0], 0) :: (24, .iconst 1, 1, [], 0) :: (25, .iadd, 1, [], 0) :: (26, .putfield 473, 3, [12, 60, 7015, 0], 0) :: (29, .return_, 1, [], 0) :: []
def c356_0 : List JE := (0, .aload_n 0, 1, [], 0) :: (1, .getfield 473, 3, [12, 60, 7015, 0], 0) :: (4, .bipush 24, 2, [], 0) :: (6, .if_icmp .ge 13, 3, [19], 0) :: (9, .aload_n 0, 1, [], 0) :: (10, .getfield 119, 3, [12, 61, 7016, 0], 0) :: (13, .aload_n 0, 1, [], 0) :: (14, .getfield 473, 3, [12, 60, 7015, 0], 0) :: (17, .iload_n 1, 1, [], 0) :: (18, .iastore, 1, [], 0) :: c356_19
/-! 357 SueOrSettleModel.plainPays(II)I -/
def c357_0 : List JE := (0, .aload_n 0, 1, [], 0) :: (1, .iconst 1, 1, [], 0) :: (2, .invokevirtual 476, 3, [5, 1, 356, 12, 9141, 9143, 119, 1008], 0) :: (5, .iload_n 2, 1, [], 0) :: (6, .iload_n 1, 1, [], 0) :: (7, .iadd, 1, [], 0) :: (8, .ireturn, 1, [], 0) :: []
/-! 358 SueOrSettleModel.partPays(II)I -/
def c358_0 : List JE := (0, .aload_n 0, 1, [], 0) :: (1, .bipush 50, 2, [], 0) :: (3, .invokevirtual 476, 3, [5, 1, 356, 12, 9141, 9143, 119, 1008], 0) :: (6, .aload_n 0, 1, [], 0) :: (7, .iload_n 1, 1, [], 0) :: (8, .iload_n 2, 1, [], 0) :: (9, .invokevirtual 479, 3, [5, 2, 357, 12, 9149, 9151, 121, 1008], 0) :: (12, .aload_n 0, 1, [], 0) :: (13, .getfield 68, 3, [12, 30, 6225, 0], 0) :: (16, .iload_n 1, 1, [], 0) :: (17, .iaload, 1, [], 0) :: (18, .iadd, 1, [], 0) :: (19, .ireturn, 1, [], 0) :: []
/-! 359 SueOrSettleModel.pays(II)I -/
def c359_49 : List JE := (49, .ireturn, 1, [], 0) :: []
def c359_43 : List JE := (43, .aload_n 0, 1, [], 0) :: (44, .iload_n 1, 1, [], 0) :: (45, .iload_n 2, 1, [], 0) :: (46, .invokevirtual 479, 3, [5, 2, 357, 12, 9149, 9151, 121, 1008], 0) :: c359_49
def c359_24 : List JE := (24, .aload_n 0, 1, [], 0) :: (25, .getfield 65, 3, [12, 29, 6224, 0], 0) :: (28, .iload_n 1, 1, [], 0) :: (29, .iaload, 1, [], 0) :: (30, .iconst 4, 1, [], 0) :: (31, .if_icmp .ne 12, 3, [43], 0) :: (34, .aload_n 0, 1, [], 0) :: (35, .iload_n 1, 1, [], 0) :: (36, .iload_n 2, 1, [], 0) :: (37, .invokevirtual 482, 3, [5, 2, 358, 12, 9145, 9147, 120, 1008], 0) :: (40, .goto 9, 3, [49], 0) :: c359_43
def c359_0 : List JE := (0, .aload_n 0, 1, [], 0) :: (1, .getfield 65, 3, [12, 29, 6224, 0], 0) :: (4, .iload_n 1, 1, [], 0) :: (5, .iaload, 1, [], 0) :: (6, .iconst 5, 1, [], 0) :: (7, .if_icmp .ne 17, 3, [24], 0) :: (10, .aload_n 0, 1, [], 0) :: (11, .bipush 60, 2, [], 0) :: (13, .invokevirtual 476, 3, [5, 1, 356, 12, 9141, 9143, 119, 1008], 0) :: (16, .aload_n 0, 1, [], 0) :: (17, .iload_n 1, 1, [], 0) :: (18, .iload_n 2, 1, [], 0) :: (19, .invokevirtual 482, 3, [5, 2, 358, 12, 9145, 9147, 120, 1008], 0) :: (22, .ineg, 1, [], 0) :: (23, .ireturn, 1, [], 0) :: c359_24
/-! 360 SueOrSettleModel.plainFeels(II)I -/
def c360_0 : List JE := (0, .aload_n 0, 1, [], 0) :: (1, .bipush 10, 2, [], 0) :: (3, .invokevirtual 476, 3, [5, 1, 356, 12, 9141, 9143, 119, 1008], 0) :: (6, .aload_n 0, 1, [], 0) :: (7, .iload_n 1, 1, [], 0) :: (8, .iload_n 2, 1, [], 0) :: (9, .invokevirtual 485, 3, [5, 2, 359, 12, 9137, 9139, 118, 1008], 0) :: (12, .iconst 2, 1, [], 0) :: (13, .imul, 1, [], 0) :: (14, .ireturn, 1, [], 0) :: []
/-! 361 SueOrSettleModel.feltFeels(II)I -/
def c361_0 : List JE := (0, .aload_n 0, 1, [], 0) :: (1, .bipush 20, 2, [], 0) :: (3, .invokevirtual 476, 3, [5, 1, 356, 12, 9141, 9143, 119, 1008], 0) :: (6, .aload_n 0, 1, [], 0) :: (7, .iload_n 1, 1, [], 0) :: (8, .iload_n 2, 1, [], 0) :: (9, .invokevirtual 488, 3, [5, 2, 360, 12, 9161, 9163, 124, 1008], 0) :: (12, .iconst 1, 1, [], 0) :: (13, .isub, 1, [], 0) :: (14, .ireturn, 1, [], 0) :: []
/-! 362 SueOrSettleModel.feels(II)I -/
def c362_57 : List JE := (57, .ireturn, 1, [], 0) :: []
def c362_51 : List JE := (51, .aload_n 0, 1, [], 0) :: (52, .iload_n 1, 1, [], 0) :: (53, .iload_n 2, 1, [], 0) :: (54, .invokevirtual 488, 3, [5, 2, 360, 12, 9161, 9163, 124, 1008], 0) :: c362_57
def c362_32 : List JE := (32, .aload_n 0, 1, [], 0) :: (33, .getfield 65, 3, [12, 29, 6224, 0], 0) :: (36, .iload_n 1, 1, [], 0) :: (37, .iaload, 1, [], 0) :: (38, .iconst 1, 1, [], 0) :: (39, .if_icmp .ne 12, 3, [51], 0) :: (42, .aload_n 0, 1, [], 0) :: (43, .iload_n 1, 1, [], 0) :: (44, .iload_n 2, 1, [], 0) :: (45, .invokevirtual 491, 3, [5, 2, 361, 12, 9157, 9159, 123, 1008], 0) :: (48, .goto 9, 3, [57], 0) :: c362_51
def c362_0 : List JE := (0, .aload_n 0, 1, [], 0) :: (1, .getfield 65, 3, [12, 29, 6224, 0], 0) :: (4, .iload_n 1, 1, [], 0) :: (5, .iaload, 1, [], 0) :: (6, .iconst 3, 1, [], 0) :: (7, .if_icmp .ne 25, 3, [32], 0) :: (10, .aload_n 0, 1, [], 0) :: (11, .bipush 40, 2, [], 0) :: (13, .invokevirtual 476, 3, [5, 1, 356, 12, 9141, 9143, 119, 1008], 0) :: (16, .aload_n 0, 1, [], 0) :: (17, .iload_n 1, 1, [], 0) :: (18, .iload_n 2, 1, [], 0) :: (19, .invokevirtual 491, 3, [5, 2, 361, 12, 9157, 9159, 123, 1008], 0) :: (22, .istore_n 3, 1, [], 0) :: (23, .iload_n 3, 1, [], 0) :: (24, .aload_n 0, 1, [], 0) :: (25, .iload_n 1, 1, [], 0) :: (26, .iconst 2, 1, [], 0) :: (27, .invokevirtual 494, 3, [5, 2, 364, 12, 9165, 9167, 125, 1008], 0) :: (30, .iadd, 1, [], 0) :: (31, .ireturn, 1, [], 0) :: c362_32
/-! 363 SueOrSettleModel.plainFears(II)I -/
def c363_0 : List JE := (0, .aload_n 0, 1, [], 0) :: (1, .bipush 11, 2, [], 0) :: (3, .invokevirtual 476, 3, [5, 1, 356, 12, 9141, 9143, 119, 1008], 0) :: (6, .iload_n 2, 1, [], 0) :: (7, .iload_n 1, 1, [], 0) :: (8, .ixor, 1, [], 0) :: (9, .ireturn, 1, [], 0) :: []
/-! 364 SueOrSettleModel.fears(II)I -/
def c364_57 : List JE := (57, .aload_n 0, 1, [], 0) :: (58, .iload_n 1, 1, [], 0) :: (59, .iload_n 2, 1, [], 0) :: (60, .invokevirtual 497, 3, [5, 2, 363, 12, 9169, 9171, 126, 1008], 0) :: (63, .ireturn, 1, [], 0) :: []
def c364_25 : List JE := (25, .aload_n 0, 1, [], 0) :: (26, .getfield 65, 3, [12, 29, 6224, 0], 0) :: (29, .iload_n 1, 1, [], 0) :: (30, .iaload, 1, [], 0) :: (31, .iconst 5, 1, [], 0) :: (32, .if_icmp .ne 25, 3, [57], 0) :: (35, .aload_n 0, 1, [], 0) :: (36, .bipush 61, 2, [], 0) :: (38, .invokevirtual 476, 3, [5, 1, 356, 12, 9141, 9143, 119, 1008], 0) :: (41, .aload_n 0, 1, [], 0) :: (42, .iload_n 1, 1, [], 0) :: (43, .iload_n 2, 1, [], 0) :: (44, .invokevirtual 497, 3, [5, 2, 363, 12, 9169, 9171, 126, 1008], 0) :: (47, .istore_n 3, 1, [], 0) :: (48, .iload_n 3, 1, [], 0) :: (49, .aload_n 0, 1, [], 0) :: (50, .iload_n 1, 1, [], 0) :: (51, .iconst 1, 1, [], 0) :: (52, .invokevirtual 485, 3, [5, 2, 359, 12, 9137, 9139, 118, 1008], 0) :: (55, .iadd, 1, [], 0) :: (56, .ireturn, 1, [], 0) :: c364_57
def c364_0 : List JE := (0, .aload_n 0, 1, [], 0) :: (1, .getfield 65, 3, [12, 29, 6224, 0], 0) :: (4, .iload_n 1, 1, [], 0) :: (5, .iaload, 1, [], 0) :: (6, .iconst 2, 1, [], 0) :: (7, .if_icmp .ne 18, 3, [25], 0) :: (10, .aload_n 0, 1, [], 0) :: (11, .bipush 30, 2, [], 0) :: (13, .invokevirtual 476, 3, [5, 1, 356, 12, 9141, 9143, 119, 1008], 0) :: (16, .aload_n 0, 1, [], 0) :: (17, .iload_n 1, 1, [], 0) :: (18, .iload_n 2, 1, [], 0) :: (19, .invokevirtual 497, 3, [5, 2, 363, 12, 9169, 9171, 126, 1008], 0) :: (22, .iconst 3, 1, [], 0) :: (23, .imul, 1, [], 0) :: (24, .ireturn, 1, [], 0) :: c364_25
/-! 365 SueOrSettleModel.plainTells(II)I -/
def c365_0 : List JE := (0, .aload_n 0, 1, [], 0) :: (1, .iconst 2, 1, [], 0) :: (2, .invokevirtual 476, 3, [5, 1, 356, 12, 9141, 9143, 119, 1008], 0) :: (5, .aload_n 0, 1, [], 0) :: (6, .iload_n 1, 1, [], 0) :: (7, .iload_n 2, 1, [], 0) :: (8, .invokevirtual 500, 3, [5, 2, 362, 12, 9153, 9155, 122, 1008], 0) :: (11, .istore_n 3, 1, [], 0) :: (12, .iload_n 3, 1, [], 0) :: (13, .aload_n 0, 1, [], 0) :: (14, .iload_n 1, 1, [], 0) :: (15, .iconst 1, 1, [], 0) :: (16, .invokevirtual 494, 3, [5, 2, 364, 12, 9165, 9167, 125, 1008], 0) :: (19, .isub, 1, [], 0) :: (20, .ireturn, 1, [], 0) :: []
/-! 366 SueOrSettleModel.tells(II)I -/
def c366_25 : List JE := (25, .aload_n 0, 1, [], 0) :: (26, .iload_n 1, 1, [], 0) :: (27, .iload_n 2, 1, [], 0) :: (28, .invokevirtual 503, 3, [5, 2, 365, 12, 9177, 9179, 128, 1008], 0) :: (31, .ireturn, 1, [], 0) :: []
def c366_0 : List JE := (0, .aload_n 0, 1, [], 0) :: (1, .getfield 65, 3, [12, 29, 6224, 0], 0) :: (4, .iload_n 1, 1, [], 0) :: (5, .iaload, 1, [], 0) :: (6, .iconst 3, 1, [], 0) :: (7, .if_icmp .ne 18, 3, [25], 0) :: (10, .aload_n 0, 1, [], 0) :: (11, .bipush 41, 2, [], 0) :: (13, .invokevirtual 476, 3, [5, 1, 356, 12, 9141, 9143, 119, 1008], 0) :: (16, .aload_n 0, 1, [], 0) :: (17, .iload_n 1, 1, [], 0) :: (18, .iload_n 2, 1, [], 0) :: (19, .iconst 1, 1, [], 0) :: (20, .iadd, 1, [], 0) :: (21, .invokevirtual 503, 3, [5, 2, 365, 12, 9177, 9179, 128, 1008], 0) :: (24, .ireturn, 1, [], 0) :: c366_25
/-! 367 SueOrSettleModel.act(III)I -/
def c367_71 : List JE := (71, .ireturn, 1, [], 0) :: []
def c367_65 : List JE := (65, .aload_n 0, 1, [], 0) :: (66, .iload_n 1, 1, [], 0) :: (67, .iload_n 3, 1, [], 0) :: (68, .invokevirtual 506, 3, [5, 2, 366, 12, 9173, 9175, 127, 1008], 0) :: c367_71
def c367_51 : List JE := (51, .iload_n 2, 1, [], 0) :: (52, .iconst 2, 1, [], 0) :: (53, .if_icmp .ne 12, 3, [65], 0) :: (56, .aload_n 0, 1, [], 0) :: (57, .iload_n 1, 1, [], 0) :: (58, .iload_n 3, 1, [], 0) :: (59, .invokevirtual 494, 3, [5, 2, 364, 12, 9165, 9167, 125, 1008], 0) :: (62, .goto 9, 3, [71], 0) :: c367_65
def c367_37 : List JE := (37, .iload_n 2, 1, [], 0) :: (38, .iconst 1, 1, [], 0) :: (39, .if_icmp .ne 12, 3, [51], 0) :: (42, .aload_n 0, 1, [], 0) :: (43, .iload_n 1, 1, [], 0) :: (44, .iload_n 3, 1, [], 0) :: (45, .invokevirtual 500, 3, [5, 2, 362, 12, 9153, 9155, 122, 1008], 0) :: (48, .goto 23, 3, [71], 0) :: c367_51
def c367_24 : List JE := (24, .iload_n 2, 1, [], 0) :: (25, .ifCond .ne 12, 3, [37], 0) :: (28, .aload_n 0, 1, [], 0) :: (29, .iload_n 1, 1, [], 0) :: (30, .iload_n 3, 1, [], 0) :: (31, .invokevirtual 485, 3, [5, 2, 359, 12, 9137, 9139, 118, 1008], 0) :: (34, .goto 37, 3, [71], 0) :: c367_37
def c367_22 : List JE := (22, .iconst 0, 1, [], 0) :: (23, .ireturn, 1, [], 0) :: c367_24
def c367_0 : List JE := (0, .aload_n 0, 1, [], 0) :: (1, .iconst 0, 1, [], 0) :: (2, .putfield 473, 3, [12, 60, 7015, 0], 0) :: (5, .aload_n 0, 1, [], 0) :: (6, .iload_n 1, 1, [], 0) :: (7, .invokevirtual 294, 3, [5, 1, 284, 12, 8095, 8097, 84, 1008], 0) :: (10, .ifCond .eq 12, 3, [22], 0) :: (13, .iload_n 2, 1, [], 0) :: (14, .iconst 0, 1, [], 0) :: (15, .iconst 3, 1, [], 0) :: (16, .invokestatic 145, 3, [0, 3, 242, 7158, 7159, 1008], 0) :: (19, .ifCond .ne 5, 3, [24], 0) :: c367_22
/-! 368 SueOrSettleModel.trace(I)I -/
def c368_28 : List JE := (28, .ireturn, 1, [], 0) :: []
def c368_27 : List JE := (27, .iconst (-1), 1, [], 0) :: c368_28
def c368_0 : List JE := (0, .iload_n 1, 1, [], 0) :: (1, .ifCond .lt 26, 3, [27], 0) :: (4, .iload_n 1, 1, [], 0) :: (5, .aload_n 0, 1, [], 0) :: (6, .getfield 473, 3, [12, 60, 7015, 0], 0) :: (9, .if_icmp .ge 18, 3, [27], 0) :: (12, .iload_n 1, 1, [], 0) :: (13, .bipush 24, 2, [], 0) :: (15, .if_icmp .ge 12, 3, [27], 0) :: (18, .aload_n 0, 1, [], 0) :: (19, .getfield 119, 3, [12, 61, 7016, 0], 0) :: (22, .iload_n 1, 1, [], 0) :: (23, .iaload, 1, [], 0) :: (24, .goto 4, 3, [28], 0) :: c368_27
/-! 369 SueOrSettleModel.count(I)I -/
def c369_70 : List JE := (70, .iconst (-1), 1, [], 0) :: (71, .ireturn, 1, [], 0) :: []
def c369_65 : List JE := (65, .aload_n 0, 1, [], 0) :: (66, .getfield 473, 3, [12, 60, 7015, 0], 0) :: (69, .ireturn, 1, [], 0) :: c369_70
def c369_60 : List JE := (60, .aload_n 0, 1, [], 0) :: (61, .getfield 156, 3, [12, 22, 6217, 0], 0) :: (64, .ireturn, 1, [], 0) :: c369_65
def c369_55 : List JE := (55, .aload_n 0, 1, [], 0) :: (56, .getfield 282, 3, [12, 28, 6223, 0], 0) :: (59, .ireturn, 1, [], 0) :: c369_60
def c369_50 : List JE := (50, .aload_n 0, 1, [], 0) :: (51, .getfield 219, 3, [12, 17, 6212, 0], 0) :: (54, .ireturn, 1, [], 0) :: c369_55
def c369_45 : List JE := (45, .aload_n 0, 1, [], 0) :: (46, .getfield 149, 3, [12, 9, 6204, 0], 0) :: (49, .ireturn, 1, [], 0) :: c369_50
def c369_40 : List JE := (40, .aload_n 0, 1, [], 0) :: (41, .getfield 142, 3, [12, 1, 6196, 0], 0) :: (44, .ireturn, 1, [], 0) :: c369_45
def c369_0 : List JE := (0, .iload_n 1, 1, [], 0) :: (1, .tableswitch 69 0 5 #[39, 44, 49, 54, 59, 64], 39, [70, 40, 45, 50, 55, 60, 65], 0) :: c369_40
/-! 370 SueOrSettleModel.isShelf(I)Z -/
def c370_0 : List JE := (0, .iload_n 0, 1, [], 0) :: (1, .iconst 0, 1, [], 0) :: (2, .iconst 5, 1, [], 0) :: (3, .invokestatic 145, 3, [0, 3, 242, 7158, 7159, 1008], 0) :: (6, .ireturn, 1, [1], 0) :: []
/-! 371 SueOrSettleModel.keep(II)I -/
def c371_22 : List JE := (22, .aload_n 0, 1, [], 0) :: (23, .getfield 122, 3, [12, 62, 7017, 0], 0) :: (26, .iload_n 1, 1, [], 0) :: (27, .iload_n 2, 1, [], 0) :: (28, .iastore, 1, [], 0) :: (29, .iconst 1, 1, [], 0) :: (30, .ireturn, 1, [], 0) :: []
def c371_20 : List JE := (20, .iconst (-1), 1, [], 0) :: (21, .ireturn, 1, [], 0) :: c371_22
def c371_0 : List JE := (0, .iload_n 1, 1, [], 0) :: (1, .invokestatic 463, 3, [0, 1, 370, 9118, 9119, 1008], 0) :: (4, .ifCond .eq 16, 3, [20], 0) :: (7, .iload_n 2, 1, [], 0) :: (8, .iconst (-1), 1, [], 0) :: (9, .if_icmp .eq 13, 3, [22], 0) :: (12, .aload_n 0, 1, [], 0) :: (13, .iload_n 2, 1, [], 0) :: (14, .invokevirtual 294, 3, [5, 1, 284, 12, 8095, 8097, 84, 1008], 0) :: (17, .ifCond .ne 5, 3, [22], 0) :: c371_20
/-! 372 SueOrSettleModel.row(III)I -/
def c372_80 : List JE := (80, .iconst 1, 1, [], 0) :: (81, .ireturn, 1, [], 0) :: []
def c372_54 : List JE := (54, .iload 4, 2, [], 0) :: (56, .bipush 60, 2, [], 0) :: (58, .iload_n 1, 1, [], 0) :: (59, .imul, 1, [], 0) :: (60, .bipush 60, 2, [], 0) :: (62, .iadd, 1, [], 0) :: (63, .if_icmp .ge 17, 3, [80], 0) :: (66, .aload_n 0, 1, [], 0) :: (67, .getfield 128, 3, [12, 64, 7019, 0], 0) :: (70, .iload 4, 2, [], 0) :: (72, .lconst 0, 1, [], 0) :: (73, .lastore, 1, [], 0) :: (74, .iinc 4 1, 3, [], 0) :: (77, .goto (-23), 3, [54], 0) :: c372_80
def c372_31 : List JE := (31, .aload_n 0, 1, [], 0) :: (32, .getfield 122, 3, [12, 62, 7017, 0], 0) :: (35, .iload_n 1, 1, [], 0) :: (36, .bipush (-2), 2, [], 0) :: (38, .iload_n 2, 1, [], 0) :: (39, .isub, 1, [], 0) :: (40, .iastore, 1, [], 0) :: (41, .aload_n 0, 1, [], 0) :: (42, .getfield 125, 3, [12, 63, 7018, 0], 0) :: (45, .iload_n 1, 1, [], 0) :: (46, .iload_n 3, 1, [], 0) :: (47, .iastore, 1, [], 0) :: (48, .bipush 60, 2, [], 0) :: (50, .iload_n 1, 1, [], 0) :: (51, .imul, 1, [], 0) :: (52, .istore 4, 2, [], 0) :: c372_54
def c372_24 : List JE := (24, .iload_n 3, 1, [], 0) :: (25, .ifCond .ge 6, 3, [31], 0) :: (28, .bipush (-14), 2, [], 0) :: (30, .ireturn, 1, [], 0) :: c372_31
def c372_22 : List JE := (22, .iconst (-1), 1, [], 0) :: (23, .ireturn, 1, [], 0) :: c372_24
def c372_0 : List JE := (0, .iload_n 1, 1, [], 0) :: (1, .invokestatic 463, 3, [0, 1, 370, 9118, 9119, 1008], 0) :: (4, .ifCond .eq 18, 3, [22], 0) :: (7, .iload_n 2, 1, [], 0) :: (8, .iconst 0, 1, [], 0) :: (9, .iconst 4, 1, [], 0) :: (10, .invokestatic 145, 3, [0, 3, 242, 7158, 7159, 1008], 0) :: (13, .ifCond .eq 9, 3, [22], 0) :: (16, .iload_n 3, 1, [], 0) :: (17, .bipush 60, 2, [], 0) :: (19, .if_icmp .le 5, 3, [24], 0) :: c372_22
/-! 373 SueOrSettleModel.whyNoPlace(II)I -/
def c373_56 : List JE := (56, .ireturn, 1, [], 0) :: []
def c373_54 : List JE := (54, .bipush (-13), 2, [], 0) :: c373_56
def c373_34 : List JE := (34, .iload_n 2, 1, [], 0) :: (35, .iconst 0, 1, [], 0) :: (36, .aload_n 0, 1, [], 0) :: (37, .getfield 125, 3, [12, 63, 7018, 0], 0) :: (40, .iload_n 1, 1, [], 0) :: (41, .iaload, 1, [], 0) :: (42, .iconst 1, 1, [], 0) :: (43, .isub, 1, [], 0) :: (44, .invokestatic 145, 3, [0, 3, 242, 7158, 7159, 1008], 0) :: (47, .ifCond .eq 7, 3, [54], 0) :: (50, .iconst 0, 1, [], 0) :: (51, .goto 5, 3, [56], 0) :: c373_54
def c373_22 : List JE := (22, .aload_n 0, 1, [], 0) :: (23, .getfield 122, 3, [12, 62, 7017, 0], 0) :: (26, .iload_n 1, 1, [], 0) :: (27, .iaload, 1, [], 0) :: (28, .ifCond .lt 6, 3, [34], 0) :: (31, .bipush (-12), 2, [], 0) :: (33, .ireturn, 1, [], 0) :: c373_34
def c373_9 : List JE := (9, .aload_n 0, 1, [], 0) :: (10, .getfield 122, 3, [12, 62, 7017, 0], 0) :: (13, .iload_n 1, 1, [], 0) :: (14, .iaload, 1, [], 0) :: (15, .iconst (-1), 1, [], 0) :: (16, .if_icmp .ne 6, 3, [22], 0) :: (19, .bipush (-11), 2, [], 0) :: (21, .ireturn, 1, [], 0) :: c373_22
def c373_0 : List JE := (0, .iload_n 1, 1, [], 0) :: (1, .invokestatic 463, 3, [0, 1, 370, 9118, 9119, 1008], 0) :: (4, .ifCond .ne 5, 3, [9], 0) :: (7, .iconst (-1), 1, [], 0) :: (8, .ireturn, 1, [], 0) :: c373_9
/-! 374 SueOrSettleModel.put(IIJ)I -/
def c374_95 : List JE := (95, .lastore, 1, [], 0) :: (96, .iconst 1, 1, [], 0) :: (97, .ireturn, 1, [], 0) :: []
def c374_94 : List JE := (94, .lconst 0, 1, [], 0) :: c374_95
def c374_84 : List JE := (84, .lload_n 3, 1, [], 0) :: (85, .lconst 0, 1, [], 0) :: (86, .lcmp, 1, [], 0) :: (87, .ifCond .eq 7, 3, [94], 0) :: (90, .lconst 1, 1, [], 0) :: (91, .goto 4, 3, [95], 0) :: c374_94
def c374_74 : List JE := (74, .iload 6, 2, [], 0) :: (76, .iconst 3, 1, [], 0) :: (77, .if_icmp .ne 7, 3, [84], 0) :: (80, .lload_n 3, 1, [], 0) :: (81, .goto 14, 3, [95], 0) :: c374_84
def c374_62 : List JE := (62, .iload 6, 2, [], 0) :: (64, .iconst 2, 1, [], 0) :: (65, .if_icmp .ne 9, 3, [74], 0) :: (68, .lload_n 3, 1, [], 0) :: (69, .l2i, 1, [], 0) :: (70, .i2l, 1, [], 0) :: (71, .goto 24, 3, [95], 0) :: c374_74
def c374_49 : List JE := (49, .iload 6, 2, [], 0) :: (51, .iconst 1, 1, [], 0) :: (52, .if_icmp .ne 10, 3, [62], 0) :: (55, .lload_n 3, 1, [], 0) :: (56, .l2i, 1, [], 0) :: (57, .i2s, 1, [], 0) :: (58, .i2l, 1, [], 0) :: (59, .goto 36, 3, [95], 0) :: c374_62
def c374_16 : List JE := (16, .bipush (-2), 2, [], 0) :: (18, .aload_n 0, 1, [], 0) :: (19, .getfield 122, 3, [12, 62, 7017, 0], 0) :: (22, .iload_n 1, 1, [], 0) :: (23, .iaload, 1, [], 0) :: (24, .isub, 1, [], 0) :: (25, .istore 6, 2, [], 0) :: (27, .aload_n 0, 1, [], 0) :: (28, .getfield 128, 3, [12, 64, 7019, 0], 0) :: (31, .bipush 60, 2, [], 0) :: (33, .iload_n 1, 1, [], 0) :: (34, .imul, 1, [], 0) :: (35, .iload_n 2, 1, [], 0) :: (36, .iadd, 1, [], 0) :: (37, .iload 6, 2, [], 0) :: (39, .ifCond .ne 10, 3, [49], 0) :: (42, .lload_n 3, 1, [], 0) :: (43, .l2i, 1, [], 0) :: (44, .i2b, 1, [], 0) :: (45, .i2l, 1, [], 0) :: (46, .goto 49, 3, [95], 0) :: c374_49
def c374_0 : List JE := (0, .aload_n 0, 1, [], 0) :: (1, .iload_n 1, 1, [], 0) :: (2, .iload_n 2, 1, [], 0) :: (3, .invokevirtual 509, 3, [5, 2, 373, 12, 9201, 9203, 129, 1008], 0) :: (6, .istore 5, 2, [], 0) :: (8, .iload 5, 2, [], 0) :: (10, .ifCond .ge 6, 3, [16], 0) :: (13, .iload 5, 2, [], 0) :: (15, .ireturn, 1, [], 0) :: c374_16
/-! 375 SueOrSettleModel.element(II)J -/
def c375_26 : List JE := (26, .lreturn, 1, [], 0) :: []
def c375_15 : List JE := (15, .aload_n 0, 1, [], 0) :: (16, .getfield 128, 3, [12, 64, 7019, 0], 0) :: (19, .bipush 60, 2, [], 0) :: (21, .iload_n 1, 1, [], 0) :: (22, .imul, 1, [], 0) :: (23, .iload_n 2, 1, [], 0) :: (24, .iadd, 1, [], 0) :: (25, .laload, 1, [], 0) :: c375_26
def c375_0 : List JE := (0, .aload_n 0, 1, [], 0) :: (1, .iload_n 1, 1, [], 0) :: (2, .iload_n 2, 1, [], 0) :: (3, .invokevirtual 509, 3, [5, 2, 373, 12, 9201, 9203, 129, 1008], 0) :: (6, .ifCond .ge 9, 3, [15], 0) :: (9, .ldc2_w 339, 3, [8115], (-9223372036854775808)) :: (12, .goto 14, 3, [26], 0) :: c375_15
/-! 376 SueOrSettleModel.shift(IIIII)I -/
def c376_185 : List JE := (185, .iload 5, 2, [], 0) :: (187, .ireturn, 1, [], 0) :: []
def c376_150 : List JE := (150, .iload 6, 2, [], 0) :: (152, .iload 5, 2, [], 0) :: (154, .if_icmp .ge 31, 3, [185], 0) :: (157, .aload_n 0, 1, [], 0) :: (158, .getfield 128, 3, [12, 64, 7019, 0], 0) :: (161, .bipush 60, 2, [], 0) :: (163, .iload_n 3, 1, [], 0) :: (164, .imul, 1, [], 0) :: (165, .iload 4, 2, [], 0) :: (167, .iadd, 1, [], 0) :: (168, .iload 6, 2, [], 0) :: (170, .iadd, 1, [], 0) :: (171, .aload_n 0, 1, [], 0) :: (172, .getfield 131, 3, [12, 65, 7020, 0], 0) :: (175, .iload 6, 2, [], 0) :: (177, .laload, 1, [], 0) :: (178, .lastore, 1, [], 0) :: (179, .iinc 6 1, 3, [], 0) :: (182, .goto (-32), 3, [150], 0) :: c376_185
def c376_147 : List JE := (147, .iconst 0, 1, [], 0) :: (148, .istore 6, 2, [], 0) :: c376_150
def c376_113 : List JE := (113, .iload 6, 2, [], 0) :: (115, .iload 5, 2, [], 0) :: (117, .if_icmp .ge 30, 3, [147], 0) :: (120, .aload_n 0, 1, [], 0) :: (121, .getfield 131, 3, [12, 65, 7020, 0], 0) :: (124, .iload 6, 2, [], 0) :: (126, .aload_n 0, 1, [], 0) :: (127, .getfield 128, 3, [12, 64, 7019, 0], 0) :: (130, .bipush 60, 2, [], 0) :: (132, .iload_n 1, 1, [], 0) :: (133, .imul, 1, [], 0) :: (134, .iload_n 2, 1, [], 0) :: (135, .iadd, 1, [], 0) :: (136, .iload 6, 2, [], 0) :: (138, .iadd, 1, [], 0) :: (139, .laload, 1, [], 0) :: (140, .lastore, 1, [], 0) :: (141, .iinc 6 1, 3, [], 0) :: (144, .goto (-31), 3, [113], 0) :: c376_147
def c376_110 : List JE := (110, .iconst 0, 1, [], 0) :: (111, .istore 6, 2, [], 0) :: c376_113
def c376_107 : List JE := (107, .bipush (-13), 2, [], 0) :: (109, .ireturn, 1, [], 0) :: c376_110
def c376_66 : List JE := (66, .iload 5, 2, [], 0) :: (68, .ifCond .lt 39, 3, [107], 0) :: (71, .iload_n 2, 1, [], 0) :: (72, .ifCond .lt 35, 3, [107], 0) :: (75, .iload 4, 2, [], 0) :: (77, .ifCond .lt 30, 3, [107], 0) :: (80, .iload_n 2, 1, [], 0) :: (81, .aload_n 0, 1, [], 0) :: (82, .getfield 125, 3, [12, 63, 7018, 0], 0) :: (85, .iload_n 1, 1, [], 0) :: (86, .iaload, 1, [], 0) :: (87, .iload 5, 2, [], 0) :: (89, .isub, 1, [], 0) :: (90, .if_icmp .gt 17, 3, [107], 0) :: (93, .iload 4, 2, [], 0) :: (95, .aload_n 0, 1, [], 0) :: (96, .getfield 125, 3, [12, 63, 7018, 0], 0) :: (99, .iload_n 3, 1, [], 0) :: (100, .iaload, 1, [], 0) :: (101, .iload 5, 2, [], 0) :: (103, .isub, 1, [], 0) :: (104, .if_icmp .le 6, 3, [110], 0) :: c376_107
def c376_63 : List JE := (63, .bipush (-12), 2, [], 0) :: (65, .ireturn, 1, [], 0) :: c376_66
def c376_39 : List JE := (39, .aload_n 0, 1, [], 0) :: (40, .getfield 122, 3, [12, 62, 7017, 0], 0) :: (43, .iload_n 1, 1, [], 0) :: (44, .iaload, 1, [], 0) :: (45, .ifCond .ge 18, 3, [63], 0) :: (48, .aload_n 0, 1, [], 0) :: (49, .getfield 122, 3, [12, 62, 7017, 0], 0) :: (52, .iload_n 1, 1, [], 0) :: (53, .iaload, 1, [], 0) :: (54, .aload_n 0, 1, [], 0) :: (55, .getfield 122, 3, [12, 62, 7017, 0], 0) :: (58, .iload_n 3, 1, [], 0) :: (59, .iaload, 1, [], 0) :: (60, .if_icmp .eq 6, 3, [66], 0) :: c376_63
def c376_36 : List JE := (36, .bipush (-11), 2, [], 0) :: (38, .ireturn, 1, [], 0) :: c376_39
def c376_16 : List JE := (16, .aload_n 0, 1, [], 0) :: (17, .getfield 122, 3, [12, 62, 7017, 0], 0) :: (20, .iload_n 1, 1, [], 0) :: (21, .iaload, 1, [], 0) :: (22, .iconst (-1), 1, [], 0) :: (23, .if_icmp .eq 13, 3, [36], 0) :: (26, .aload_n 0, 1, [], 0) :: (27, .getfield 122, 3, [12, 62, 7017, 0], 0) :: (30, .iload_n 3, 1, [], 0) :: (31, .iaload, 1, [], 0) :: (32, .iconst (-1), 1, [], 0) :: (33, .if_icmp .ne 6, 3, [39], 0) :: c376_36
def c376_14 : List JE := (14, .iconst (-1), 1, [], 0) :: (15, .ireturn, 1, [], 0) :: c376_16
def c376_0 : List JE := (0, .iload_n 1, 1, [], 0) :: (1, .invokestatic 463, 3, [0, 1, 370, 9118, 9119, 1008], 0) :: (4, .ifCond .eq 10, 3, [14], 0) :: (7, .iload_n 3, 1, [], 0) :: (8, .invokestatic 463, 3, [0, 1, 370, 9118, 9119, 1008], 0) :: (11, .ifCond .ne 5, 3, [16], 0) :: c376_14
/-! 377 SueOrSettleModel.taken(II)I -/
def c377_74 : List JE := (74, .ireturn, 1, [], 0) :: []
def c377_72 : List JE := (72, .bipush (-12), 2, [], 0) :: c377_74
def c377_31 : List JE := (31, .aload_n 0, 1, [], 0) :: (32, .getfield 122, 3, [12, 62, 7017, 0], 0) :: (35, .iload_n 1, 1, [], 0) :: (36, .iaload, 1, [], 0) :: (37, .ifCond .lt 35, 3, [72], 0) :: (40, .aload_n 0, 1, [], 0) :: (41, .getfield 65, 3, [12, 29, 6224, 0], 0) :: (44, .aload_n 0, 1, [], 0) :: (45, .getfield 122, 3, [12, 62, 7017, 0], 0) :: (48, .iload_n 1, 1, [], 0) :: (49, .iaload, 1, [], 0) :: (50, .iaload, 1, [], 0) :: (51, .iload_n 2, 1, [], 0) :: (52, .invokestatic 512, 3, [0, 2, 355, 9217, 9218, 1008], 0) :: (55, .ifCond .eq 17, 3, [72], 0) :: (58, .aload_n 0, 1, [], 0) :: (59, .getfield 65, 3, [12, 29, 6224, 0], 0) :: (62, .aload_n 0, 1, [], 0) :: (63, .getfield 122, 3, [12, 62, 7017, 0], 0) :: (66, .iload_n 1, 1, [], 0) :: (67, .iaload, 1, [], 0) :: (68, .iaload, 1, [], 0) :: (69, .goto 5, 3, [74], 0) :: c377_72
def c377_18 : List JE := (18, .aload_n 0, 1, [], 0) :: (19, .getfield 122, 3, [12, 62, 7017, 0], 0) :: (22, .iload_n 1, 1, [], 0) :: (23, .iaload, 1, [], 0) :: (24, .iconst (-1), 1, [], 0) :: (25, .if_icmp .ne 6, 3, [31], 0) :: (28, .bipush (-11), 2, [], 0) :: (30, .ireturn, 1, [], 0) :: c377_31
def c377_16 : List JE := (16, .iconst (-1), 1, [], 0) :: (17, .ireturn, 1, [], 0) :: c377_18
def c377_0 : List JE := (0, .iload_n 1, 1, [], 0) :: (1, .invokestatic 463, 3, [0, 1, 370, 9118, 9119, 1008], 0) :: (4, .ifCond .eq 12, 3, [16], 0) :: (7, .iload_n 2, 1, [], 0) :: (8, .iconst 0, 1, [], 0) :: (9, .iconst 5, 1, [], 0) :: (10, .invokestatic 145, 3, [0, 3, 242, 7158, 7159, 1008], 0) :: (13, .ifCond .ne 5, 3, [18], 0) :: c377_16
/-! 378 java/lang/Math.floorDiv(JJ)J -/
def c378_27 : List JE := (27, .lload 4, 2, [], 0) :: (29, .lreturn, 1, [], 0) :: []
def c378_0 : List JE := (0, .lload_n 0, 1, [], 0) :: (1, .lload_n 2, 1, [], 0) :: (2, .ldiv, 1, [], 0) :: (3, .lstore 4, 2, [], 0) :: (5, .lload_n 0, 1, [], 0) :: (6, .lload_n 2, 1, [], 0) :: (7, .lxor, 1, [], 0) :: (8, .lconst 0, 1, [], 0) :: (9, .lcmp, 1, [], 0) :: (10, .ifCond .ge 17, 3, [27], 0) :: (13, .lload 4, 2, [], 0) :: (15, .lload_n 2, 1, [], 0) :: (16, .lmul, 1, [], 0) :: (17, .lload_n 0, 1, [], 0) :: (18, .lcmp, 1, [], 0) :: (19, .ifCond .eq 8, 3, [27], 0) :: (22, .lload 4, 2, [], 0) :: (24, .lconst 1, 1, [], 0) :: (25, .lsub, 1, [], 0) :: (26, .lreturn, 1, [], 0) :: c378_27
/-! 379 java/lang/Math.max(II)I -/
def c379_10 : List JE := (10, .ireturn, 1, [], 0) :: []
def c379_9 : List JE := (9, .iload_n 1, 1, [], 0) :: c379_10
def c379_0 : List JE := (0, .iload_n 0, 1, [], 0) :: (1, .iload_n 1, 1, [], 0) :: (2, .if_icmp .lt 7, 3, [9], 0) :: (5, .iload_n 0, 1, [], 0) :: (6, .goto 4, 3, [10], 0) :: c379_9
/-! 380 java/lang/Math.max(JJ)J -/
def c380_11 : List JE := (11, .lreturn, 1, [], 0) :: []
def c380_10 : List JE := (10, .lload_n 2, 1, [], 0) :: c380_11
def c380_0 : List JE := (0, .lload_n 0, 1, [], 0) :: (1, .lload_n 2, 1, [], 0) :: (2, .lcmp, 1, [], 0) :: (3, .ifCond .lt 7, 3, [10], 0) :: (6, .lload_n 0, 1, [], 0) :: (7, .goto 4, 3, [11], 0) :: c380_10
/-! 381 java/lang/Math.min(II)I -/
def c381_10 : List JE := (10, .ireturn, 1, [], 0) :: []
def c381_9 : List JE := (9, .iload_n 1, 1, [], 0) :: c381_10
def c381_0 : List JE := (0, .iload_n 0, 1, [], 0) :: (1, .iload_n 1, 1, [], 0) :: (2, .if_icmp .gt 7, 3, [9], 0) :: (5, .iload_n 0, 1, [], 0) :: (6, .goto 4, 3, [10], 0) :: c381_9
/-! 382 java/lang/Math.min(JJ)J -/
def c382_11 : List JE := (11, .lreturn, 1, [], 0) :: []
def c382_10 : List JE := (10, .lload_n 2, 1, [], 0) :: c382_11
def c382_0 : List JE := (0, .lload_n 0, 1, [], 0) :: (1, .lload_n 2, 1, [], 0) :: (2, .lcmp, 1, [], 0) :: (3, .ifCond .gt 7, 3, [10], 0) :: (6, .lload_n 0, 1, [], 0) :: (7, .goto 4, 3, [11], 0) :: c382_10
/-! 383 java/util/Arrays.fill([II)V -/
def c383_20 : List JE := (20, .return_, 1, [], 0) :: []
def c383_5 : List JE := (5, .iload_n 2, 1, [], 0) :: (6, .iload_n 3, 1, [], 0) :: (7, .if_icmp .ge 13, 3, [20], 0) :: (10, .aload_n 0, 1, [], 0) :: (11, .iload_n 2, 1, [], 0) :: (12, .iload_n 1, 1, [], 0) :: (13, .iastore, 1, [], 0) :: (14, .iinc 2 1, 3, [], 0) :: (17, .goto (-12), 3, [5], 0) :: c383_20
def c383_0 : List JE := (0, .iconst 0, 1, [], 0) :: (1, .istore_n 2, 1, [], 0) :: (2, .aload_n 0, 1, [], 0) :: (3, .arraylength, 1, [], 0) :: (4, .istore_n 3, 1, [], 0) :: c383_5
/-! the law -/
def c384_2196 : List JE := (2196, .iconst 1, 1, [], 0) :: (2197, .ireturn, 1, [1], 0) :: []
def c384_2190 : List JE := (2190, .iinc 3 6, 3, [], 0) :: (2193, .goto (-2175), 3, [18], 0) :: c384_2196
def c384_2167 : List JE := (2167, .aload_n 1, 1, [], 0) :: (2168, .aload_n 0, 1, [], 0) :: (2169, .iload_n 3, 1, [], 0) :: (2170, .iconst 1, 1, [], 0) :: (2171, .iadd, 1, [], 0) :: (2172, .iaload, 1, [], 0) :: (2173, .invokevirtual 235, 3, [5, 1, 218, 11, 6186, 6187, 6188, 1001], 0) :: (2176, .aload_n 2, 1, [], 0) :: (2177, .aload_n 0, 1, [], 0) :: (2178, .iload_n 3, 1, [], 0) :: (2179, .iconst 1, 1, [], 0) :: (2180, .iadd, 1, [], 0) :: (2181, .iaload, 1, [], 0) :: (2182, .invokevirtual 238, 3, [5, 1, 369, 12, 9185, 9186, 9187, 1008], 0) :: (2185, .if_icmp .eq 5, 3, [2190], 0) :: (2188, .iconst 0, 1, [], 0) :: (2189, .ireturn, 1, [1], 0) :: c384_2190
def c384_2134 : List JE := (2134, .aload_n 1, 1, [], 0) :: (2135, .aload_n 0, 1, [], 0) :: (2136, .iload_n 3, 1, [], 0) :: (2137, .iconst 1, 1, [], 0) :: (2138, .iadd, 1, [], 0) :: (2139, .iaload, 1, [], 0) :: (2140, .aload_n 0, 1, [], 0) :: (2141, .iload_n 3, 1, [], 0) :: (2142, .iconst 2, 1, [], 0) :: (2143, .iadd, 1, [], 0) :: (2144, .iaload, 1, [], 0) :: (2145, .invokevirtual 231, 3, [5, 2, 217, 11, 6159, 6160, 6161, 1001], 0) :: (2148, .aload_n 2, 1, [], 0) :: (2149, .aload_n 0, 1, [], 0) :: (2150, .iload_n 3, 1, [], 0) :: (2151, .iconst 1, 1, [], 0) :: (2152, .iadd, 1, [], 0) :: (2153, .iaload, 1, [], 0) :: (2154, .aload_n 0, 1, [], 0) :: (2155, .iload_n 3, 1, [], 0) :: (2156, .iconst 2, 1, [], 0) :: (2157, .iadd, 1, [], 0) :: (2158, .iaload, 1, [], 0) :: (2159, .invokevirtual 234, 3, [5, 2, 377, 12, 9213, 9214, 9215, 1008], 0) :: (2162, .if_icmp .eq 28, 3, [2190], 0) :: (2165, .iconst 0, 1, [], 0) :: (2166, .ireturn, 1, [1], 0) :: c384_2167
def c384_2071 : List JE := (2071, .aload_n 1, 1, [], 0) :: (2072, .aload_n 0, 1, [], 0) :: (2073, .iload_n 3, 1, [], 0) :: (2074, .iconst 1, 1, [], 0) :: (2075, .iadd, 1, [], 0) :: (2076, .iaload, 1, [], 0) :: (2077, .aload_n 0, 1, [], 0) :: (2078, .iload_n 3, 1, [], 0) :: (2079, .iconst 2, 1, [], 0) :: (2080, .iadd, 1, [], 0) :: (2081, .iaload, 1, [], 0) :: (2082, .aload_n 0, 1, [], 0) :: (2083, .iload_n 3, 1, [], 0) :: (2084, .iconst 3, 1, [], 0) :: (2085, .iadd, 1, [], 0) :: (2086, .iaload, 1, [], 0) :: (2087, .aload_n 0, 1, [], 0) :: (2088, .iload_n 3, 1, [], 0) :: (2089, .iconst 4, 1, [], 0) :: (2090, .iadd, 1, [], 0) :: (2091, .iaload, 1, [], 0) :: (2092, .aload_n 0, 1, [], 0) :: (2093, .iload_n 3, 1, [], 0) :: (2094, .iconst 5, 1, [], 0) :: (2095, .iadd, 1, [], 0) :: (2096, .iaload, 1, [], 0) :: (2097, .invokevirtual 226, 3, [5, 5, 216, 11, 6155, 6156, 6157, 1001], 0) :: (2100, .aload_n 2, 1, [], 0) :: (2101, .aload_n 0, 1, [], 0) :: (2102, .iload_n 3, 1, [], 0) :: (2103, .iconst 1, 1, [], 0) :: (2104, .iadd, 1, [], 0) :: (2105, .iaload, 1, [], 0) :: (2106, .aload_n 0, 1, [], 0) :: (2107, .iload_n 3, 1, [], 0) :: (2108, .iconst 2, 1, [], 0) :: (2109, .iadd, 1, [], 0) :: (2110, .iaload, 1, [], 0) :: (2111, .aload_n 0, 1, [], 0) :: (2112, .iload_n 3, 1, [], 0) :: (2113, .iconst 3, 1, [], 0) :: (2114, .iadd, 1, [], 0) :: (2115, .iaload, 1, [], 0) :: (2116, .aload_n 0, 1, [], 0) :: (2117, .iload_n 3, 1, [], 0) :: (2118, .iconst 4, 1, [], 0) :: (2119, .iadd, 1, [], 0) :: (2120, .iaload, 1, [], 0) :: (2121, .aload_n 0, 1, [], 0) :: (2122, .iload_n 3, 1, [], 0) :: (2123, .iconst 5, 1, [], 0) :: (2124, .iadd, 1, [], 0) :: (2125, .iaload, 1, [], 0) :: (2126, .invokevirtual 230, 3, [5, 5, 376, 12, 9209, 9210, 9211, 1008], 0) :: (2129, .if_icmp .eq 61, 3, [2190], 0) :: (2132, .iconst 0, 1, [], 0) :: (2133, .ireturn, 1, [1], 0) :: c384_2134
def c384_2037 : List JE := (2037, .aload_n 1, 1, [], 0) :: (2038, .aload_n 0, 1, [], 0) :: (2039, .iload_n 3, 1, [], 0) :: (2040, .iconst 1, 1, [], 0) :: (2041, .iadd, 1, [], 0) :: (2042, .iaload, 1, [], 0) :: (2043, .aload_n 0, 1, [], 0) :: (2044, .iload_n 3, 1, [], 0) :: (2045, .iconst 2, 1, [], 0) :: (2046, .iadd, 1, [], 0) :: (2047, .iaload, 1, [], 0) :: (2048, .invokevirtual 221, 3, [5, 2, 215, 11, 6151, 6152, 6153, 1001], 0) :: (2051, .aload_n 2, 1, [], 0) :: (2052, .aload_n 0, 1, [], 0) :: (2053, .iload_n 3, 1, [], 0) :: (2054, .iconst 1, 1, [], 0) :: (2055, .iadd, 1, [], 0) :: (2056, .iaload, 1, [], 0) :: (2057, .aload_n 0, 1, [], 0) :: (2058, .iload_n 3, 1, [], 0) :: (2059, .iconst 2, 1, [], 0) :: (2060, .iadd, 1, [], 0) :: (2061, .iaload, 1, [], 0) :: (2062, .invokevirtual 225, 3, [5, 2, 375, 12, 9205, 9206, 9207, 1008], 0) :: (2065, .lcmp, 1, [], 0) :: (2066, .ifCond .eq 124, 3, [2190], 0) :: (2069, .iconst 0, 1, [], 0) :: (2070, .ireturn, 1, [1], 0) :: c384_2071
def c384_1964 : List JE := (1964, .aload_n 1, 1, [], 0) :: (1965, .aload_n 0, 1, [], 0) :: (1966, .iload_n 3, 1, [], 0) :: (1967, .iconst 1, 1, [], 0) :: (1968, .iadd, 1, [], 0) :: (1969, .iaload, 1, [], 0) :: (1970, .aload_n 0, 1, [], 0) :: (1971, .iload_n 3, 1, [], 0) :: (1972, .iconst 2, 1, [], 0) :: (1973, .iadd, 1, [], 0) :: (1974, .iaload, 1, [], 0) :: (1975, .aload_n 0, 1, [], 0) :: (1976, .iload_n 3, 1, [], 0) :: (1977, .iconst 3, 1, [], 0) :: (1978, .iadd, 1, [], 0) :: (1979, .iaload, 1, [], 0) :: (1980, .i2l, 1, [], 0) :: (1981, .bipush 32, 2, [], 0) :: (1983, .lshl, 1, [], 0) :: (1984, .aload_n 0, 1, [], 0) :: (1985, .iload_n 3, 1, [], 0) :: (1986, .iconst 4, 1, [], 0) :: (1987, .iadd, 1, [], 0) :: (1988, .iaload, 1, [], 0) :: (1989, .i2l, 1, [], 0) :: (1990, .ldc2_w 214, 3, [9220], 4294967295) :: (1993, .land, 1, [], 0) :: (1994, .lor, 1, [], 0) :: (1995, .invokevirtual 216, 3, [5, 3, 214, 11, 6140, 6141, 6142, 1001], 0) :: (1998, .aload_n 2, 1, [], 0) :: (1999, .aload_n 0, 1, [], 0) :: (2000, .iload_n 3, 1, [], 0) :: (2001, .iconst 1, 1, [], 0) :: (2002, .iadd, 1, [], 0) :: (2003, .iaload, 1, [], 0) :: (2004, .aload_n 0, 1, [], 0) :: (2005, .iload_n 3, 1, [], 0) :: (2006, .iconst 2, 1, [], 0) :: (2007, .iadd, 1, [], 0) :: (2008, .iaload, 1, [], 0) :: (2009, .aload_n 0, 1, [], 0) :: (2010, .iload_n 3, 1, [], 0) :: (2011, .iconst 3, 1, [], 0) :: (2012, .iadd, 1, [], 0) :: (2013, .iaload, 1, [], 0) :: (2014, .i2l, 1, [], 0) :: (2015, .bipush 32, 2, [], 0) :: (2017, .lshl, 1, [], 0) :: (2018, .aload_n 0, 1, [], 0) :: (2019, .iload_n 3, 1, [], 0) :: (2020, .iconst 4, 1, [], 0) :: (2021, .iadd, 1, [], 0) :: (2022, .iaload, 1, [], 0) :: (2023, .i2l, 1, [], 0) :: (2024, .ldc2_w 214, 3, [9220], 4294967295) :: (2027, .land, 1, [], 0) :: (2028, .lor, 1, [], 0) :: (2029, .invokevirtual 220, 3, [5, 3, 374, 12, 9197, 9198, 9199, 1008], 0) :: (2032, .if_icmp .eq 158, 3, [2190], 0) :: (2035, .iconst 0, 1, [], 0) :: (2036, .ireturn, 1, [1], 0) :: c384_2037
def c384_1921 : List JE := (1921, .aload_n 1, 1, [], 0) :: (1922, .aload_n 0, 1, [], 0) :: (1923, .iload_n 3, 1, [], 0) :: (1924, .iconst 1, 1, [], 0) :: (1925, .iadd, 1, [], 0) :: (1926, .iaload, 1, [], 0) :: (1927, .aload_n 0, 1, [], 0) :: (1928, .iload_n 3, 1, [], 0) :: (1929, .iconst 2, 1, [], 0) :: (1930, .iadd, 1, [], 0) :: (1931, .iaload, 1, [], 0) :: (1932, .aload_n 0, 1, [], 0) :: (1933, .iload_n 3, 1, [], 0) :: (1934, .iconst 3, 1, [], 0) :: (1935, .iadd, 1, [], 0) :: (1936, .iaload, 1, [], 0) :: (1937, .invokevirtual 210, 3, [5, 3, 213, 11, 6136, 6137, 6138, 1001], 0) :: (1940, .aload_n 2, 1, [], 0) :: (1941, .aload_n 0, 1, [], 0) :: (1942, .iload_n 3, 1, [], 0) :: (1943, .iconst 1, 1, [], 0) :: (1944, .iadd, 1, [], 0) :: (1945, .iaload, 1, [], 0) :: (1946, .aload_n 0, 1, [], 0) :: (1947, .iload_n 3, 1, [], 0) :: (1948, .iconst 2, 1, [], 0) :: (1949, .iadd, 1, [], 0) :: (1950, .iaload, 1, [], 0) :: (1951, .aload_n 0, 1, [], 0) :: (1952, .iload_n 3, 1, [], 0) :: (1953, .iconst 3, 1, [], 0) :: (1954, .iadd, 1, [], 0) :: (1955, .iaload, 1, [], 0) :: (1956, .invokevirtual 213, 3, [5, 3, 372, 12, 9193, 9194, 9195, 1008], 0) :: (1959, .if_icmp .eq 231, 3, [2190], 0) :: (1962, .iconst 0, 1, [], 0) :: (1963, .ireturn, 1, [1], 0) :: c384_1964
def c384_1888 : List JE := (1888, .aload_n 1, 1, [], 0) :: (1889, .aload_n 0, 1, [], 0) :: (1890, .iload_n 3, 1, [], 0) :: (1891, .iconst 1, 1, [], 0) :: (1892, .iadd, 1, [], 0) :: (1893, .iaload, 1, [], 0) :: (1894, .aload_n 0, 1, [], 0) :: (1895, .iload_n 3, 1, [], 0) :: (1896, .iconst 2, 1, [], 0) :: (1897, .iadd, 1, [], 0) :: (1898, .iaload, 1, [], 0) :: (1899, .invokevirtual 206, 3, [5, 2, 212, 11, 6132, 6133, 6134, 1001], 0) :: (1902, .aload_n 2, 1, [], 0) :: (1903, .aload_n 0, 1, [], 0) :: (1904, .iload_n 3, 1, [], 0) :: (1905, .iconst 1, 1, [], 0) :: (1906, .iadd, 1, [], 0) :: (1907, .iaload, 1, [], 0) :: (1908, .aload_n 0, 1, [], 0) :: (1909, .iload_n 3, 1, [], 0) :: (1910, .iconst 2, 1, [], 0) :: (1911, .iadd, 1, [], 0) :: (1912, .iaload, 1, [], 0) :: (1913, .invokevirtual 209, 3, [5, 2, 371, 12, 9189, 9190, 9191, 1008], 0) :: (1916, .if_icmp .eq 274, 3, [2190], 0) :: (1919, .iconst 0, 1, [], 0) :: (1920, .ireturn, 1, [1], 0) :: c384_1921
def c384_1865 : List JE := (1865, .aload_n 1, 1, [], 0) :: (1866, .aload_n 0, 1, [], 0) :: (1867, .iload_n 3, 1, [], 0) :: (1868, .iconst 1, 1, [], 0) :: (1869, .iadd, 1, [], 0) :: (1870, .iaload, 1, [], 0) :: (1871, .invokevirtual 202, 3, [5, 1, 211, 11, 6120, 6121, 6122, 1001], 0) :: (1874, .aload_n 2, 1, [], 0) :: (1875, .aload_n 0, 1, [], 0) :: (1876, .iload_n 3, 1, [], 0) :: (1877, .iconst 1, 1, [], 0) :: (1878, .iadd, 1, [], 0) :: (1879, .iaload, 1, [], 0) :: (1880, .invokevirtual 205, 3, [5, 1, 368, 12, 9181, 9182, 9183, 1008], 0) :: (1883, .if_icmp .eq 307, 3, [2190], 0) :: (1886, .iconst 0, 1, [], 0) :: (1887, .ireturn, 1, [1], 0) :: c384_1888
def c384_1822 : List JE := (1822, .aload_n 1, 1, [], 0) :: (1823, .aload_n 0, 1, [], 0) :: (1824, .iload_n 3, 1, [], 0) :: (1825, .iconst 1, 1, [], 0) :: (1826, .iadd, 1, [], 0) :: (1827, .iaload, 1, [], 0) :: (1828, .aload_n 0, 1, [], 0) :: (1829, .iload_n 3, 1, [], 0) :: (1830, .iconst 2, 1, [], 0) :: (1831, .iadd, 1, [], 0) :: (1832, .iaload, 1, [], 0) :: (1833, .aload_n 0, 1, [], 0) :: (1834, .iload_n 3, 1, [], 0) :: (1835, .iconst 3, 1, [], 0) :: (1836, .iadd, 1, [], 0) :: (1837, .iaload, 1, [], 0) :: (1838, .invokevirtual 198, 3, [5, 3, 210, 11, 6038, 6039, 6040, 1001], 0) :: (1841, .aload_n 2, 1, [], 0) :: (1842, .aload_n 0, 1, [], 0) :: (1843, .iload_n 3, 1, [], 0) :: (1844, .iconst 1, 1, [], 0) :: (1845, .iadd, 1, [], 0) :: (1846, .iaload, 1, [], 0) :: (1847, .aload_n 0, 1, [], 0) :: (1848, .iload_n 3, 1, [], 0) :: (1849, .iconst 2, 1, [], 0) :: (1850, .iadd, 1, [], 0) :: (1851, .iaload, 1, [], 0) :: (1852, .aload_n 0, 1, [], 0) :: (1853, .iload_n 3, 1, [], 0) :: (1854, .iconst 3, 1, [], 0) :: (1855, .iadd, 1, [], 0) :: (1856, .iaload, 1, [], 0) :: (1857, .invokevirtual 201, 3, [5, 3, 367, 12, 9133, 9134, 9135, 1008], 0) :: (1860, .if_icmp .eq 330, 3, [2190], 0) :: (1863, .iconst 0, 1, [], 0) :: (1864, .ireturn, 1, [1], 0) :: c384_1865
def c384_1779 : List JE := (1779, .aload_n 1, 1, [], 0) :: (1780, .aload_n 0, 1, [], 0) :: (1781, .iload_n 3, 1, [], 0) :: (1782, .iconst 1, 1, [], 0) :: (1783, .iadd, 1, [], 0) :: (1784, .iaload, 1, [], 0) :: (1785, .aload_n 0, 1, [], 0) :: (1786, .iload_n 3, 1, [], 0) :: (1787, .iconst 2, 1, [], 0) :: (1788, .iadd, 1, [], 0) :: (1789, .iaload, 1, [], 0) :: (1790, .aload_n 0, 1, [], 0) :: (1791, .iload_n 3, 1, [], 0) :: (1792, .iconst 3, 1, [], 0) :: (1793, .iadd, 1, [], 0) :: (1794, .iaload, 1, [], 0) :: (1795, .invokevirtual 194, 3, [5, 3, 209, 11, 6024, 6025, 6026, 1001], 0) :: (1798, .aload_n 2, 1, [], 0) :: (1799, .aload_n 0, 1, [], 0) :: (1800, .iload_n 3, 1, [], 0) :: (1801, .iconst 1, 1, [], 0) :: (1802, .iadd, 1, [], 0) :: (1803, .iaload, 1, [], 0) :: (1804, .aload_n 0, 1, [], 0) :: (1805, .iload_n 3, 1, [], 0) :: (1806, .iconst 2, 1, [], 0) :: (1807, .iadd, 1, [], 0) :: (1808, .iaload, 1, [], 0) :: (1809, .aload_n 0, 1, [], 0) :: (1810, .iload_n 3, 1, [], 0) :: (1811, .iconst 3, 1, [], 0) :: (1812, .iadd, 1, [], 0) :: (1813, .iaload, 1, [], 0) :: (1814, .invokevirtual 197, 3, [5, 3, 354, 12, 9128, 9129, 9130, 1008], 0) :: (1817, .if_icmp .eq 373, 3, [2190], 0) :: (1820, .iconst 0, 1, [], 0) :: (1821, .ireturn, 1, [1], 0) :: c384_1822
def c384_1735 : List JE := (1735, .aload_n 1, 1, [], 0) :: (1736, .aload_n 0, 1, [], 0) :: (1737, .iload_n 3, 1, [], 0) :: (1738, .iconst 1, 1, [], 0) :: (1739, .iadd, 1, [], 0) :: (1740, .iaload, 1, [], 0) :: (1741, .aload_n 0, 1, [], 0) :: (1742, .iload_n 3, 1, [], 0) :: (1743, .iconst 2, 1, [], 0) :: (1744, .iadd, 1, [], 0) :: (1745, .iaload, 1, [], 0) :: (1746, .aload_n 0, 1, [], 0) :: (1747, .iload_n 3, 1, [], 0) :: (1748, .iconst 3, 1, [], 0) :: (1749, .iadd, 1, [], 0) :: (1750, .iaload, 1, [], 0) :: (1751, .invokevirtual 190, 3, [5, 3, 208, 11, 6000, 6001, 6002, 1001], 0) :: (1754, .aload_n 2, 1, [], 0) :: (1755, .aload_n 0, 1, [], 0) :: (1756, .iload_n 3, 1, [], 0) :: (1757, .iconst 1, 1, [], 0) :: (1758, .iadd, 1, [], 0) :: (1759, .iaload, 1, [], 0) :: (1760, .aload_n 0, 1, [], 0) :: (1761, .iload_n 3, 1, [], 0) :: (1762, .iconst 2, 1, [], 0) :: (1763, .iadd, 1, [], 0) :: (1764, .iaload, 1, [], 0) :: (1765, .aload_n 0, 1, [], 0) :: (1766, .iload_n 3, 1, [], 0) :: (1767, .iconst 3, 1, [], 0) :: (1768, .iadd, 1, [], 0) :: (1769, .iaload, 1, [], 0) :: (1770, .invokevirtual 193, 3, [5, 3, 353, 12, 9122, 9123, 9124, 1008], 0) :: (1773, .lcmp, 1, [], 0) :: (1774, .ifCond .eq 416, 3, [2190], 0) :: (1777, .iconst 0, 1, [], 0) :: (1778, .ireturn, 1, [1], 0) :: c384_1779
def c384_1692 : List JE := (1692, .aload_n 1, 1, [], 0) :: (1693, .aload_n 0, 1, [], 0) :: (1694, .iload_n 3, 1, [], 0) :: (1695, .iconst 1, 1, [], 0) :: (1696, .iadd, 1, [], 0) :: (1697, .iaload, 1, [], 0) :: (1698, .aload_n 0, 1, [], 0) :: (1699, .iload_n 3, 1, [], 0) :: (1700, .iconst 2, 1, [], 0) :: (1701, .iadd, 1, [], 0) :: (1702, .iaload, 1, [], 0) :: (1703, .aload_n 0, 1, [], 0) :: (1704, .iload_n 3, 1, [], 0) :: (1705, .iconst 3, 1, [], 0) :: (1706, .iadd, 1, [], 0) :: (1707, .iaload, 1, [], 0) :: (1708, .invokevirtual 186, 3, [5, 3, 207, 11, 5229, 5230, 5231, 1001], 0) :: (1711, .aload_n 2, 1, [], 0) :: (1712, .aload_n 0, 1, [], 0) :: (1713, .iload_n 3, 1, [], 0) :: (1714, .iconst 1, 1, [], 0) :: (1715, .iadd, 1, [], 0) :: (1716, .iaload, 1, [], 0) :: (1717, .aload_n 0, 1, [], 0) :: (1718, .iload_n 3, 1, [], 0) :: (1719, .iconst 2, 1, [], 0) :: (1720, .iadd, 1, [], 0) :: (1721, .iaload, 1, [], 0) :: (1722, .aload_n 0, 1, [], 0) :: (1723, .iload_n 3, 1, [], 0) :: (1724, .iconst 3, 1, [], 0) :: (1725, .iadd, 1, [], 0) :: (1726, .iaload, 1, [], 0) :: (1727, .invokevirtual 189, 3, [5, 3, 352, 12, 9114, 9115, 9116, 1008], 0) :: (1730, .if_icmp .eq 460, 3, [2190], 0) :: (1733, .iconst 0, 1, [], 0) :: (1734, .ireturn, 1, [1], 0) :: c384_1735
def c384_1639 : List JE := (1639, .aload_n 1, 1, [], 0) :: (1640, .aload_n 0, 1, [], 0) :: (1641, .iload_n 3, 1, [], 0) :: (1642, .iconst 1, 1, [], 0) :: (1643, .iadd, 1, [], 0) :: (1644, .iaload, 1, [], 0) :: (1645, .aload_n 0, 1, [], 0) :: (1646, .iload_n 3, 1, [], 0) :: (1647, .iconst 2, 1, [], 0) :: (1648, .iadd, 1, [], 0) :: (1649, .iaload, 1, [], 0) :: (1650, .aload_n 0, 1, [], 0) :: (1651, .iload_n 3, 1, [], 0) :: (1652, .iconst 3, 1, [], 0) :: (1653, .iadd, 1, [], 0) :: (1654, .iaload, 1, [], 0) :: (1655, .aload_n 0, 1, [], 0) :: (1656, .iload_n 3, 1, [], 0) :: (1657, .iconst 4, 1, [], 0) :: (1658, .iadd, 1, [], 0) :: (1659, .iaload, 1, [], 0) :: (1660, .invokevirtual 182, 3, [5, 4, 206, 11, 5218, 5219, 5220, 1001], 0) :: (1663, .aload_n 2, 1, [], 0) :: (1664, .aload_n 0, 1, [], 0) :: (1665, .iload_n 3, 1, [], 0) :: (1666, .iconst 1, 1, [], 0) :: (1667, .iadd, 1, [], 0) :: (1668, .iaload, 1, [], 0) :: (1669, .aload_n 0, 1, [], 0) :: (1670, .iload_n 3, 1, [], 0) :: (1671, .iconst 2, 1, [], 0) :: (1672, .iadd, 1, [], 0) :: (1673, .iaload, 1, [], 0) :: (1674, .aload_n 0, 1, [], 0) :: (1675, .iload_n 3, 1, [], 0) :: (1676, .iconst 3, 1, [], 0) :: (1677, .iadd, 1, [], 0) :: (1678, .iaload, 1, [], 0) :: (1679, .aload_n 0, 1, [], 0) :: (1680, .iload_n 3, 1, [], 0) :: (1681, .iconst 4, 1, [], 0) :: (1682, .iadd, 1, [], 0) :: (1683, .iaload, 1, [], 0) :: (1684, .invokevirtual 185, 3, [5, 4, 351, 12, 9107, 9108, 9109, 1008], 0) :: (1687, .if_icmp .eq 503, 3, [2190], 0) :: (1690, .iconst 0, 1, [], 0) :: (1691, .ireturn, 1, [1], 0) :: c384_1692
def c384_1606 : List JE := (1606, .aload_n 1, 1, [], 0) :: (1607, .aload_n 0, 1, [], 0) :: (1608, .iload_n 3, 1, [], 0) :: (1609, .iconst 1, 1, [], 0) :: (1610, .iadd, 1, [], 0) :: (1611, .iaload, 1, [], 0) :: (1612, .aload_n 0, 1, [], 0) :: (1613, .iload_n 3, 1, [], 0) :: (1614, .iconst 2, 1, [], 0) :: (1615, .iadd, 1, [], 0) :: (1616, .iaload, 1, [], 0) :: (1617, .invokevirtual 178, 3, [5, 2, 205, 11, 5195, 5196, 5197, 1001], 0) :: (1620, .aload_n 2, 1, [], 0) :: (1621, .aload_n 0, 1, [], 0) :: (1622, .iload_n 3, 1, [], 0) :: (1623, .iconst 1, 1, [], 0) :: (1624, .iadd, 1, [], 0) :: (1625, .iaload, 1, [], 0) :: (1626, .aload_n 0, 1, [], 0) :: (1627, .iload_n 3, 1, [], 0) :: (1628, .iconst 2, 1, [], 0) :: (1629, .iadd, 1, [], 0) :: (1630, .iaload, 1, [], 0) :: (1631, .invokevirtual 181, 3, [5, 2, 349, 12, 9098, 9099, 9100, 1008], 0) :: (1634, .if_icmp .eq 556, 3, [2190], 0) :: (1637, .iconst 0, 1, [], 0) :: (1638, .ireturn, 1, [1], 0) :: c384_1639
def c384_1573 : List JE := (1573, .aload_n 1, 1, [], 0) :: (1574, .aload_n 0, 1, [], 0) :: (1575, .iload_n 3, 1, [], 0) :: (1576, .iconst 1, 1, [], 0) :: (1577, .iadd, 1, [], 0) :: (1578, .iaload, 1, [], 0) :: (1579, .aload_n 0, 1, [], 0) :: (1580, .iload_n 3, 1, [], 0) :: (1581, .iconst 2, 1, [], 0) :: (1582, .iadd, 1, [], 0) :: (1583, .iaload, 1, [], 0) :: (1584, .invokevirtual 174, 3, [5, 2, 204, 11, 5187, 5188, 5189, 1001], 0) :: (1587, .aload_n 2, 1, [], 0) :: (1588, .aload_n 0, 1, [], 0) :: (1589, .iload_n 3, 1, [], 0) :: (1590, .iconst 1, 1, [], 0) :: (1591, .iadd, 1, [], 0) :: (1592, .iaload, 1, [], 0) :: (1593, .aload_n 0, 1, [], 0) :: (1594, .iload_n 3, 1, [], 0) :: (1595, .iconst 2, 1, [], 0) :: (1596, .iadd, 1, [], 0) :: (1597, .iaload, 1, [], 0) :: (1598, .invokevirtual 177, 3, [5, 2, 347, 12, 9094, 9095, 9096, 1008], 0) :: (1601, .if_icmp .eq 589, 3, [2190], 0) :: (1604, .iconst 0, 1, [], 0) :: (1605, .ireturn, 1, [1], 0) :: c384_1606
def c384_1560 : List JE := (1560, .aload_n 1, 1, [], 0) :: (1561, .invokevirtual 170, 3, [5, 0, 203, 11, 5179, 5180, 5181, 1001], 0) :: (1564, .aload_n 2, 1, [], 0) :: (1565, .invokevirtual 173, 3, [5, 0, 346, 12, 9090, 9091, 9092, 1008], 0) :: (1568, .if_icmp .eq 622, 3, [2190], 0) :: (1571, .iconst 0, 1, [], 0) :: (1572, .ireturn, 1, [1], 0) :: c384_1573
def c384_1527 : List JE := (1527, .aload_n 1, 1, [], 0) :: (1528, .aload_n 0, 1, [], 0) :: (1529, .iload_n 3, 1, [], 0) :: (1530, .iconst 1, 1, [], 0) :: (1531, .iadd, 1, [], 0) :: (1532, .iaload, 1, [], 0) :: (1533, .aload_n 0, 1, [], 0) :: (1534, .iload_n 3, 1, [], 0) :: (1535, .iconst 2, 1, [], 0) :: (1536, .iadd, 1, [], 0) :: (1537, .iaload, 1, [], 0) :: (1538, .invokevirtual 166, 3, [5, 2, 202, 11, 5147, 5148, 5149, 1001], 0) :: (1541, .aload_n 2, 1, [], 0) :: (1542, .aload_n 0, 1, [], 0) :: (1543, .iload_n 3, 1, [], 0) :: (1544, .iconst 1, 1, [], 0) :: (1545, .iadd, 1, [], 0) :: (1546, .iaload, 1, [], 0) :: (1547, .aload_n 0, 1, [], 0) :: (1548, .iload_n 3, 1, [], 0) :: (1549, .iconst 2, 1, [], 0) :: (1550, .iadd, 1, [], 0) :: (1551, .iaload, 1, [], 0) :: (1552, .invokevirtual 169, 3, [5, 2, 345, 12, 9071, 9072, 9073, 1008], 0) :: (1555, .if_icmp .eq 635, 3, [2190], 0) :: (1558, .iconst 0, 1, [], 0) :: (1559, .ireturn, 1, [1], 0) :: c384_1560
def c384_1504 : List JE := (1504, .aload_n 1, 1, [], 0) :: (1505, .aload_n 0, 1, [], 0) :: (1506, .iload_n 3, 1, [], 0) :: (1507, .iconst 1, 1, [], 0) :: (1508, .iadd, 1, [], 0) :: (1509, .iaload, 1, [], 0) :: (1510, .invokevirtual 162, 3, [5, 1, 201, 11, 5139, 5140, 5141, 1001], 0) :: (1513, .aload_n 2, 1, [], 0) :: (1514, .aload_n 0, 1, [], 0) :: (1515, .iload_n 3, 1, [], 0) :: (1516, .iconst 1, 1, [], 0) :: (1517, .iadd, 1, [], 0) :: (1518, .iaload, 1, [], 0) :: (1519, .invokevirtual 165, 3, [5, 1, 340, 12, 9067, 9068, 9069, 1008], 0) :: (1522, .if_icmp .eq 668, 3, [2190], 0) :: (1525, .iconst 0, 1, [], 0) :: (1526, .ireturn, 1, [1], 0) :: c384_1527
def c384_1461 : List JE := (1461, .aload_n 1, 1, [], 0) :: (1462, .aload_n 0, 1, [], 0) :: (1463, .iload_n 3, 1, [], 0) :: (1464, .iconst 1, 1, [], 0) :: (1465, .iadd, 1, [], 0) :: (1466, .iaload, 1, [], 0) :: (1467, .aload_n 0, 1, [], 0) :: (1468, .iload_n 3, 1, [], 0) :: (1469, .iconst 2, 1, [], 0) :: (1470, .iadd, 1, [], 0) :: (1471, .iaload, 1, [], 0) :: (1472, .aload_n 0, 1, [], 0) :: (1473, .iload_n 3, 1, [], 0) :: (1474, .iconst 3, 1, [], 0) :: (1475, .iadd, 1, [], 0) :: (1476, .iaload, 1, [], 0) :: (1477, .invokevirtual 158, 3, [5, 3, 200, 11, 5131, 5132, 5133, 1001], 0) :: (1480, .aload_n 2, 1, [], 0) :: (1481, .aload_n 0, 1, [], 0) :: (1482, .iload_n 3, 1, [], 0) :: (1483, .iconst 1, 1, [], 0) :: (1484, .iadd, 1, [], 0) :: (1485, .iaload, 1, [], 0) :: (1486, .aload_n 0, 1, [], 0) :: (1487, .iload_n 3, 1, [], 0) :: (1488, .iconst 2, 1, [], 0) :: (1489, .iadd, 1, [], 0) :: (1490, .iaload, 1, [], 0) :: (1491, .aload_n 0, 1, [], 0) :: (1492, .iload_n 3, 1, [], 0) :: (1493, .iconst 3, 1, [], 0) :: (1494, .iadd, 1, [], 0) :: (1495, .iaload, 1, [], 0) :: (1496, .invokevirtual 161, 3, [5, 3, 339, 12, 9063, 9064, 9065, 1008], 0) :: (1499, .if_icmp .eq 691, 3, [2190], 0) :: (1502, .iconst 0, 1, [], 0) :: (1503, .ireturn, 1, [1], 0) :: c384_1504
def c384_1438 : List JE := (1438, .aload_n 1, 1, [], 0) :: (1439, .aload_n 0, 1, [], 0) :: (1440, .iload_n 3, 1, [], 0) :: (1441, .iconst 1, 1, [], 0) :: (1442, .iadd, 1, [], 0) :: (1443, .iaload, 1, [], 0) :: (1444, .invokevirtual 154, 3, [5, 1, 199, 11, 5115, 5116, 5117, 1001], 0) :: (1447, .aload_n 2, 1, [], 0) :: (1448, .aload_n 0, 1, [], 0) :: (1449, .iload_n 3, 1, [], 0) :: (1450, .iconst 1, 1, [], 0) :: (1451, .iadd, 1, [], 0) :: (1452, .iaload, 1, [], 0) :: (1453, .invokevirtual 157, 3, [5, 1, 338, 12, 9055, 9056, 9057, 1008], 0) :: (1456, .if_icmp .eq 734, 3, [2190], 0) :: (1459, .iconst 0, 1, [], 0) :: (1460, .ireturn, 1, [1], 0) :: c384_1461
def c384_1415 : List JE := (1415, .aload_n 1, 1, [], 0) :: (1416, .aload_n 0, 1, [], 0) :: (1417, .iload_n 3, 1, [], 0) :: (1418, .iconst 1, 1, [], 0) :: (1419, .iadd, 1, [], 0) :: (1420, .iaload, 1, [], 0) :: (1421, .invokevirtual 150, 3, [5, 1, 198, 11, 5085, 5086, 5087, 1001], 0) :: (1424, .aload_n 2, 1, [], 0) :: (1425, .aload_n 0, 1, [], 0) :: (1426, .iload_n 3, 1, [], 0) :: (1427, .iconst 1, 1, [], 0) :: (1428, .iadd, 1, [], 0) :: (1429, .iaload, 1, [], 0) :: (1430, .invokevirtual 153, 3, [5, 1, 336, 12, 9045, 9046, 9047, 1008], 0) :: (1433, .if_icmp .eq 757, 3, [2190], 0) :: (1436, .iconst 0, 1, [], 0) :: (1437, .ireturn, 1, [1], 0) :: c384_1438
def c384_1392 : List JE := (1392, .aload_n 1, 1, [], 0) :: (1393, .aload_n 0, 1, [], 0) :: (1394, .iload_n 3, 1, [], 0) :: (1395, .iconst 1, 1, [], 0) :: (1396, .iadd, 1, [], 0) :: (1397, .iaload, 1, [], 0) :: (1398, .invokevirtual 146, 3, [5, 1, 197, 11, 5069, 5070, 5071, 1001], 0) :: (1401, .aload_n 2, 1, [], 0) :: (1402, .aload_n 0, 1, [], 0) :: (1403, .iload_n 3, 1, [], 0) :: (1404, .iconst 1, 1, [], 0) :: (1405, .iadd, 1, [], 0) :: (1406, .iaload, 1, [], 0) :: (1407, .invokevirtual 149, 3, [5, 1, 333, 12, 9037, 9038, 9039, 1008], 0) :: (1410, .if_icmp .eq 780, 3, [2190], 0) :: (1413, .iconst 0, 1, [], 0) :: (1414, .ireturn, 1, [1], 0) :: c384_1415
def c384_1349 : List JE := (1349, .aload_n 1, 1, [], 0) :: (1350, .aload_n 0, 1, [], 0) :: (1351, .iload_n 3, 1, [], 0) :: (1352, .iconst 1, 1, [], 0) :: (1353, .iadd, 1, [], 0) :: (1354, .iaload, 1, [], 0) :: (1355, .aload_n 0, 1, [], 0) :: (1356, .iload_n 3, 1, [], 0) :: (1357, .iconst 2, 1, [], 0) :: (1358, .iadd, 1, [], 0) :: (1359, .iaload, 1, [], 0) :: (1360, .aload_n 0, 1, [], 0) :: (1361, .iload_n 3, 1, [], 0) :: (1362, .iconst 3, 1, [], 0) :: (1363, .iadd, 1, [], 0) :: (1364, .iaload, 1, [], 0) :: (1365, .invokevirtual 142, 3, [5, 3, 196, 11, 5053, 5054, 5055, 1001], 0) :: (1368, .aload_n 2, 1, [], 0) :: (1369, .aload_n 0, 1, [], 0) :: (1370, .iload_n 3, 1, [], 0) :: (1371, .iconst 1, 1, [], 0) :: (1372, .iadd, 1, [], 0) :: (1373, .iaload, 1, [], 0) :: (1374, .aload_n 0, 1, [], 0) :: (1375, .iload_n 3, 1, [], 0) :: (1376, .iconst 2, 1, [], 0) :: (1377, .iadd, 1, [], 0) :: (1378, .iaload, 1, [], 0) :: (1379, .aload_n 0, 1, [], 0) :: (1380, .iload_n 3, 1, [], 0) :: (1381, .iconst 3, 1, [], 0) :: (1382, .iadd, 1, [], 0) :: (1383, .iaload, 1, [], 0) :: (1384, .invokevirtual 145, 3, [5, 3, 331, 12, 9033, 9034, 9035, 1008], 0) :: (1387, .if_icmp .eq 803, 3, [2190], 0) :: (1390, .iconst 0, 1, [], 0) :: (1391, .ireturn, 1, [1], 0) :: c384_1392
def c384_1316 : List JE := (1316, .aload_n 1, 1, [], 0) :: (1317, .aload_n 0, 1, [], 0) :: (1318, .iload_n 3, 1, [], 0) :: (1319, .iconst 1, 1, [], 0) :: (1320, .iadd, 1, [], 0) :: (1321, .iaload, 1, [], 0) :: (1322, .aload_n 0, 1, [], 0) :: (1323, .iload_n 3, 1, [], 0) :: (1324, .iconst 2, 1, [], 0) :: (1325, .iadd, 1, [], 0) :: (1326, .iaload, 1, [], 0) :: (1327, .invokevirtual 138, 3, [5, 2, 195, 11, 5044, 5045, 5046, 1001], 0) :: (1330, .aload_n 2, 1, [], 0) :: (1331, .aload_n 0, 1, [], 0) :: (1332, .iload_n 3, 1, [], 0) :: (1333, .iconst 1, 1, [], 0) :: (1334, .iadd, 1, [], 0) :: (1335, .iaload, 1, [], 0) :: (1336, .aload_n 0, 1, [], 0) :: (1337, .iload_n 3, 1, [], 0) :: (1338, .iconst 2, 1, [], 0) :: (1339, .iadd, 1, [], 0) :: (1340, .iaload, 1, [], 0) :: (1341, .invokevirtual 141, 3, [5, 2, 330, 12, 9029, 9030, 9031, 1008], 0) :: (1344, .if_icmp .eq 846, 3, [2190], 0) :: (1347, .iconst 0, 1, [], 0) :: (1348, .ireturn, 1, [1], 0) :: c384_1349
def c384_1262 : List JE := (1262, .aload_n 1, 1, [], 0) :: (1263, .aload_n 0, 1, [], 0) :: (1264, .iload_n 3, 1, [], 0) :: (1265, .iconst 1, 1, [], 0) :: (1266, .iadd, 1, [], 0) :: (1267, .iaload, 1, [], 0) :: (1268, .aload_n 0, 1, [], 0) :: (1269, .iload_n 3, 1, [], 0) :: (1270, .iconst 2, 1, [], 0) :: (1271, .iadd, 1, [], 0) :: (1272, .iaload, 1, [], 0) :: (1273, .aload_n 0, 1, [], 0) :: (1274, .iload_n 3, 1, [], 0) :: (1275, .iconst 3, 1, [], 0) :: (1276, .iadd, 1, [], 0) :: (1277, .iaload, 1, [], 0) :: (1278, .aload_n 0, 1, [], 0) :: (1279, .iload_n 3, 1, [], 0) :: (1280, .iconst 4, 1, [], 0) :: (1281, .iadd, 1, [], 0) :: (1282, .iaload, 1, [], 0) :: (1283, .invokevirtual 134, 3, [5, 4, 194, 11, 5035, 5036, 5037, 1001], 0) :: (1286, .aload_n 2, 1, [], 0) :: (1287, .aload_n 0, 1, [], 0) :: (1288, .iload_n 3, 1, [], 0) :: (1289, .iconst 1, 1, [], 0) :: (1290, .iadd, 1, [], 0) :: (1291, .iaload, 1, [], 0) :: (1292, .aload_n 0, 1, [], 0) :: (1293, .iload_n 3, 1, [], 0) :: (1294, .iconst 2, 1, [], 0) :: (1295, .iadd, 1, [], 0) :: (1296, .iaload, 1, [], 0) :: (1297, .aload_n 0, 1, [], 0) :: (1298, .iload_n 3, 1, [], 0) :: (1299, .iconst 3, 1, [], 0) :: (1300, .iadd, 1, [], 0) :: (1301, .iaload, 1, [], 0) :: (1302, .aload_n 0, 1, [], 0) :: (1303, .iload_n 3, 1, [], 0) :: (1304, .iconst 4, 1, [], 0) :: (1305, .iadd, 1, [], 0) :: (1306, .iaload, 1, [], 0) :: (1307, .invokevirtual 137, 3, [5, 4, 329, 12, 9021, 9022, 9023, 1008], 0) :: (1310, .lcmp, 1, [], 0) :: (1311, .ifCond .eq 879, 3, [2190], 0) :: (1314, .iconst 0, 1, [], 0) :: (1315, .ireturn, 1, [1], 0) :: c384_1316
def c384_1209 : List JE := (1209, .aload_n 1, 1, [], 0) :: (1210, .aload_n 0, 1, [], 0) :: (1211, .iload_n 3, 1, [], 0) :: (1212, .iconst 1, 1, [], 0) :: (1213, .iadd, 1, [], 0) :: (1214, .iaload, 1, [], 0) :: (1215, .aload_n 0, 1, [], 0) :: (1216, .iload_n 3, 1, [], 0) :: (1217, .iconst 2, 1, [], 0) :: (1218, .iadd, 1, [], 0) :: (1219, .iaload, 1, [], 0) :: (1220, .aload_n 0, 1, [], 0) :: (1221, .iload_n 3, 1, [], 0) :: (1222, .iconst 3, 1, [], 0) :: (1223, .iadd, 1, [], 0) :: (1224, .iaload, 1, [], 0) :: (1225, .aload_n 0, 1, [], 0) :: (1226, .iload_n 3, 1, [], 0) :: (1227, .iconst 4, 1, [], 0) :: (1228, .iadd, 1, [], 0) :: (1229, .iaload, 1, [], 0) :: (1230, .invokevirtual 130, 3, [5, 4, 193, 11, 5000, 5001, 5002, 1001], 0) :: (1233, .aload_n 2, 1, [], 0) :: (1234, .aload_n 0, 1, [], 0) :: (1235, .iload_n 3, 1, [], 0) :: (1236, .iconst 1, 1, [], 0) :: (1237, .iadd, 1, [], 0) :: (1238, .iaload, 1, [], 0) :: (1239, .aload_n 0, 1, [], 0) :: (1240, .iload_n 3, 1, [], 0) :: (1241, .iconst 2, 1, [], 0) :: (1242, .iadd, 1, [], 0) :: (1243, .iaload, 1, [], 0) :: (1244, .aload_n 0, 1, [], 0) :: (1245, .iload_n 3, 1, [], 0) :: (1246, .iconst 3, 1, [], 0) :: (1247, .iadd, 1, [], 0) :: (1248, .iaload, 1, [], 0) :: (1249, .aload_n 0, 1, [], 0) :: (1250, .iload_n 3, 1, [], 0) :: (1251, .iconst 4, 1, [], 0) :: (1252, .iadd, 1, [], 0) :: (1253, .iaload, 1, [], 0) :: (1254, .invokevirtual 133, 3, [5, 4, 327, 12, 8237, 8238, 8239, 1008], 0) :: (1257, .if_icmp .eq 933, 3, [2190], 0) :: (1260, .iconst 0, 1, [], 0) :: (1261, .ireturn, 1, [1], 0) :: c384_1262
def c384_1186 : List JE := (1186, .aload_n 1, 1, [], 0) :: (1187, .aload_n 0, 1, [], 0) :: (1188, .iload_n 3, 1, [], 0) :: (1189, .iconst 1, 1, [], 0) :: (1190, .iadd, 1, [], 0) :: (1191, .iaload, 1, [], 0) :: (1192, .invokevirtual 126, 3, [5, 1, 192, 11, 4236, 4237, 4238, 1001], 0) :: (1195, .aload_n 2, 1, [], 0) :: (1196, .aload_n 0, 1, [], 0) :: (1197, .iload_n 3, 1, [], 0) :: (1198, .iconst 1, 1, [], 0) :: (1199, .iadd, 1, [], 0) :: (1200, .iaload, 1, [], 0) :: (1201, .invokevirtual 129, 3, [5, 1, 321, 12, 8233, 8234, 8235, 1008], 0) :: (1204, .if_icmp .eq 986, 3, [2190], 0) :: (1207, .iconst 0, 1, [], 0) :: (1208, .ireturn, 1, [1], 0) :: c384_1209
def c384_1133 : List JE := (1133, .aload_n 1, 1, [], 0) :: (1134, .aload_n 0, 1, [], 0) :: (1135, .iload_n 3, 1, [], 0) :: (1136, .iconst 1, 1, [], 0) :: (1137, .iadd, 1, [], 0) :: (1138, .iaload, 1, [], 0) :: (1139, .aload_n 0, 1, [], 0) :: (1140, .iload_n 3, 1, [], 0) :: (1141, .iconst 2, 1, [], 0) :: (1142, .iadd, 1, [], 0) :: (1143, .iaload, 1, [], 0) :: (1144, .aload_n 0, 1, [], 0) :: (1145, .iload_n 3, 1, [], 0) :: (1146, .iconst 3, 1, [], 0) :: (1147, .iadd, 1, [], 0) :: (1148, .iaload, 1, [], 0) :: (1149, .aload_n 0, 1, [], 0) :: (1150, .iload_n 3, 1, [], 0) :: (1151, .iconst 4, 1, [], 0) :: (1152, .iadd, 1, [], 0) :: (1153, .iaload, 1, [], 0) :: (1154, .invokevirtual 122, 3, [5, 4, 191, 11, 4220, 4221, 4222, 1001], 0) :: (1157, .aload_n 2, 1, [], 0) :: (1158, .aload_n 0, 1, [], 0) :: (1159, .iload_n 3, 1, [], 0) :: (1160, .iconst 1, 1, [], 0) :: (1161, .iadd, 1, [], 0) :: (1162, .iaload, 1, [], 0) :: (1163, .aload_n 0, 1, [], 0) :: (1164, .iload_n 3, 1, [], 0) :: (1165, .iconst 2, 1, [], 0) :: (1166, .iadd, 1, [], 0) :: (1167, .iaload, 1, [], 0) :: (1168, .aload_n 0, 1, [], 0) :: (1169, .iload_n 3, 1, [], 0) :: (1170, .iconst 3, 1, [], 0) :: (1171, .iadd, 1, [], 0) :: (1172, .iaload, 1, [], 0) :: (1173, .aload_n 0, 1, [], 0) :: (1174, .iload_n 3, 1, [], 0) :: (1175, .iconst 4, 1, [], 0) :: (1176, .iadd, 1, [], 0) :: (1177, .iaload, 1, [], 0) :: (1178, .invokevirtual 125, 3, [5, 4, 320, 12, 8229, 8230, 8231, 1008], 0) :: (1181, .if_icmp .eq 1009, 3, [2190], 0) :: (1184, .iconst 0, 1, [], 0) :: (1185, .ireturn, 1, [1], 0) :: c384_1186
def c384_1090 : List JE := (1090, .aload_n 1, 1, [], 0) :: (1091, .aload_n 0, 1, [], 0) :: (1092, .iload_n 3, 1, [], 0) :: (1093, .iconst 1, 1, [], 0) :: (1094, .iadd, 1, [], 0) :: (1095, .iaload, 1, [], 0) :: (1096, .aload_n 0, 1, [], 0) :: (1097, .iload_n 3, 1, [], 0) :: (1098, .iconst 2, 1, [], 0) :: (1099, .iadd, 1, [], 0) :: (1100, .iaload, 1, [], 0) :: (1101, .aload_n 0, 1, [], 0) :: (1102, .iload_n 3, 1, [], 0) :: (1103, .iconst 3, 1, [], 0) :: (1104, .iadd, 1, [], 0) :: (1105, .iaload, 1, [], 0) :: (1106, .invokevirtual 118, 3, [5, 3, 190, 11, 4207, 4208, 4209, 1001], 0) :: (1109, .aload_n 2, 1, [], 0) :: (1110, .aload_n 0, 1, [], 0) :: (1111, .iload_n 3, 1, [], 0) :: (1112, .iconst 1, 1, [], 0) :: (1113, .iadd, 1, [], 0) :: (1114, .iaload, 1, [], 0) :: (1115, .aload_n 0, 1, [], 0) :: (1116, .iload_n 3, 1, [], 0) :: (1117, .iconst 2, 1, [], 0) :: (1118, .iadd, 1, [], 0) :: (1119, .iaload, 1, [], 0) :: (1120, .aload_n 0, 1, [], 0) :: (1121, .iload_n 3, 1, [], 0) :: (1122, .iconst 3, 1, [], 0) :: (1123, .iadd, 1, [], 0) :: (1124, .iaload, 1, [], 0) :: (1125, .invokevirtual 121, 3, [5, 3, 319, 12, 8209, 8210, 8211, 1008], 0) :: (1128, .if_icmp .eq 1062, 3, [2190], 0) :: (1131, .iconst 0, 1, [], 0) :: (1132, .ireturn, 1, [1], 0) :: c384_1133
def c384_1067 : List JE := (1067, .aload_n 1, 1, [], 0) :: (1068, .aload_n 0, 1, [], 0) :: (1069, .iload_n 3, 1, [], 0) :: (1070, .iconst 1, 1, [], 0) :: (1071, .iadd, 1, [], 0) :: (1072, .iaload, 1, [], 0) :: (1073, .invokevirtual 114, 3, [5, 1, 189, 11, 4203, 4204, 4205, 1001], 0) :: (1076, .aload_n 2, 1, [], 0) :: (1077, .aload_n 0, 1, [], 0) :: (1078, .iload_n 3, 1, [], 0) :: (1079, .iconst 1, 1, [], 0) :: (1080, .iadd, 1, [], 0) :: (1081, .iaload, 1, [], 0) :: (1082, .invokevirtual 117, 3, [5, 1, 314, 12, 8205, 8206, 8207, 1008], 0) :: (1085, .if_icmp .eq 1105, 3, [2190], 0) :: (1088, .iconst 0, 1, [], 0) :: (1089, .ireturn, 1, [1], 0) :: c384_1090
def c384_1013 : List JE := (1013, .aload_n 1, 1, [], 0) :: (1014, .aload_n 0, 1, [], 0) :: (1015, .iload_n 3, 1, [], 0) :: (1016, .iconst 1, 1, [], 0) :: (1017, .iadd, 1, [], 0) :: (1018, .iaload, 1, [], 0) :: (1019, .aload_n 0, 1, [], 0) :: (1020, .iload_n 3, 1, [], 0) :: (1021, .iconst 2, 1, [], 0) :: (1022, .iadd, 1, [], 0) :: (1023, .iaload, 1, [], 0) :: (1024, .aload_n 0, 1, [], 0) :: (1025, .iload_n 3, 1, [], 0) :: (1026, .iconst 3, 1, [], 0) :: (1027, .iadd, 1, [], 0) :: (1028, .iaload, 1, [], 0) :: (1029, .aload_n 0, 1, [], 0) :: (1030, .iload_n 3, 1, [], 0) :: (1031, .iconst 4, 1, [], 0) :: (1032, .iadd, 1, [], 0) :: (1033, .iaload, 1, [], 0) :: (1034, .invokevirtual 110, 3, [5, 4, 188, 11, 4199, 4200, 4201, 1001], 0) :: (1037, .aload_n 2, 1, [], 0) :: (1038, .aload_n 0, 1, [], 0) :: (1039, .iload_n 3, 1, [], 0) :: (1040, .iconst 1, 1, [], 0) :: (1041, .iadd, 1, [], 0) :: (1042, .iaload, 1, [], 0) :: (1043, .aload_n 0, 1, [], 0) :: (1044, .iload_n 3, 1, [], 0) :: (1045, .iconst 2, 1, [], 0) :: (1046, .iadd, 1, [], 0) :: (1047, .iaload, 1, [], 0) :: (1048, .aload_n 0, 1, [], 0) :: (1049, .iload_n 3, 1, [], 0) :: (1050, .iconst 3, 1, [], 0) :: (1051, .iadd, 1, [], 0) :: (1052, .iaload, 1, [], 0) :: (1053, .aload_n 0, 1, [], 0) :: (1054, .iload_n 3, 1, [], 0) :: (1055, .iconst 4, 1, [], 0) :: (1056, .iadd, 1, [], 0) :: (1057, .iaload, 1, [], 0) :: (1058, .invokevirtual 113, 3, [5, 4, 313, 12, 8201, 8202, 8203, 1008], 0) :: (1061, .lcmp, 1, [], 0) :: (1062, .ifCond .eq 1128, 3, [2190], 0) :: (1065, .iconst 0, 1, [], 0) :: (1066, .ireturn, 1, [1], 0) :: c384_1067
def c384_969 : List JE := (969, .aload_n 1, 1, [], 0) :: (970, .aload_n 0, 1, [], 0) :: (971, .iload_n 3, 1, [], 0) :: (972, .iconst 1, 1, [], 0) :: (973, .iadd, 1, [], 0) :: (974, .iaload, 1, [], 0) :: (975, .aload_n 0, 1, [], 0) :: (976, .iload_n 3, 1, [], 0) :: (977, .iconst 2, 1, [], 0) :: (978, .iadd, 1, [], 0) :: (979, .iaload, 1, [], 0) :: (980, .aload_n 0, 1, [], 0) :: (981, .iload_n 3, 1, [], 0) :: (982, .iconst 3, 1, [], 0) :: (983, .iadd, 1, [], 0) :: (984, .iaload, 1, [], 0) :: (985, .invokevirtual 106, 3, [5, 3, 187, 11, 4189, 4190, 4191, 1001], 0) :: (988, .aload_n 2, 1, [], 0) :: (989, .aload_n 0, 1, [], 0) :: (990, .iload_n 3, 1, [], 0) :: (991, .iconst 1, 1, [], 0) :: (992, .iadd, 1, [], 0) :: (993, .iaload, 1, [], 0) :: (994, .aload_n 0, 1, [], 0) :: (995, .iload_n 3, 1, [], 0) :: (996, .iconst 2, 1, [], 0) :: (997, .iadd, 1, [], 0) :: (998, .iaload, 1, [], 0) :: (999, .aload_n 0, 1, [], 0) :: (1000, .iload_n 3, 1, [], 0) :: (1001, .iconst 3, 1, [], 0) :: (1002, .iadd, 1, [], 0) :: (1003, .iaload, 1, [], 0) :: (1004, .invokevirtual 109, 3, [5, 3, 312, 12, 8185, 8186, 8187, 1008], 0) :: (1007, .lcmp, 1, [], 0) :: (1008, .ifCond .eq 1182, 3, [2190], 0) :: (1011, .iconst 0, 1, [], 0) :: (1012, .ireturn, 1, [1], 0) :: c384_1013
def c384_936 : List JE := (936, .aload_n 1, 1, [], 0) :: (937, .aload_n 0, 1, [], 0) :: (938, .iload_n 3, 1, [], 0) :: (939, .iconst 1, 1, [], 0) :: (940, .iadd, 1, [], 0) :: (941, .iaload, 1, [], 0) :: (942, .aload_n 0, 1, [], 0) :: (943, .iload_n 3, 1, [], 0) :: (944, .iconst 2, 1, [], 0) :: (945, .iadd, 1, [], 0) :: (946, .iaload, 1, [], 0) :: (947, .invokevirtual 102, 3, [5, 2, 186, 11, 4181, 4182, 4183, 1001], 0) :: (950, .aload_n 2, 1, [], 0) :: (951, .aload_n 0, 1, [], 0) :: (952, .iload_n 3, 1, [], 0) :: (953, .iconst 1, 1, [], 0) :: (954, .iadd, 1, [], 0) :: (955, .iaload, 1, [], 0) :: (956, .aload_n 0, 1, [], 0) :: (957, .iload_n 3, 1, [], 0) :: (958, .iconst 2, 1, [], 0) :: (959, .iadd, 1, [], 0) :: (960, .iaload, 1, [], 0) :: (961, .invokevirtual 105, 3, [5, 2, 308, 12, 8177, 8178, 8179, 1008], 0) :: (964, .if_icmp .eq 1226, 3, [2190], 0) :: (967, .iconst 0, 1, [], 0) :: (968, .ireturn, 1, [1], 0) :: c384_969
def c384_882 : List JE := (882, .aload_n 1, 1, [], 0) :: (883, .aload_n 0, 1, [], 0) :: (884, .iload_n 3, 1, [], 0) :: (885, .iconst 1, 1, [], 0) :: (886, .iadd, 1, [], 0) :: (887, .iaload, 1, [], 0) :: (888, .aload_n 0, 1, [], 0) :: (889, .iload_n 3, 1, [], 0) :: (890, .iconst 2, 1, [], 0) :: (891, .iadd, 1, [], 0) :: (892, .iaload, 1, [], 0) :: (893, .aload_n 0, 1, [], 0) :: (894, .iload_n 3, 1, [], 0) :: (895, .iconst 3, 1, [], 0) :: (896, .iadd, 1, [], 0) :: (897, .iaload, 1, [], 0) :: (898, .aload_n 0, 1, [], 0) :: (899, .iload_n 3, 1, [], 0) :: (900, .iconst 4, 1, [], 0) :: (901, .iadd, 1, [], 0) :: (902, .iaload, 1, [], 0) :: (903, .invokevirtual 97, 3, [5, 4, 185, 11, 4168, 4169, 4170, 1001], 0) :: (906, .aload_n 2, 1, [], 0) :: (907, .aload_n 0, 1, [], 0) :: (908, .iload_n 3, 1, [], 0) :: (909, .iconst 1, 1, [], 0) :: (910, .iadd, 1, [], 0) :: (911, .iaload, 1, [], 0) :: (912, .aload_n 0, 1, [], 0) :: (913, .iload_n 3, 1, [], 0) :: (914, .iconst 2, 1, [], 0) :: (915, .iadd, 1, [], 0) :: (916, .iaload, 1, [], 0) :: (917, .aload_n 0, 1, [], 0) :: (918, .iload_n 3, 1, [], 0) :: (919, .iconst 3, 1, [], 0) :: (920, .iadd, 1, [], 0) :: (921, .iaload, 1, [], 0) :: (922, .aload_n 0, 1, [], 0) :: (923, .iload_n 3, 1, [], 0) :: (924, .iconst 4, 1, [], 0) :: (925, .iadd, 1, [], 0) :: (926, .iaload, 1, [], 0) :: (927, .invokevirtual 101, 3, [5, 4, 306, 12, 8169, 8170, 8171, 1008], 0) :: (930, .lcmp, 1, [], 0) :: (931, .ifCond .eq 1259, 3, [2190], 0) :: (934, .iconst 0, 1, [], 0) :: (935, .ireturn, 1, [1], 0) :: c384_936
def c384_849 : List JE := (849, .aload_n 1, 1, [], 0) :: (850, .aload_n 0, 1, [], 0) :: (851, .iload_n 3, 1, [], 0) :: (852, .iconst 1, 1, [], 0) :: (853, .iadd, 1, [], 0) :: (854, .iaload, 1, [], 0) :: (855, .aload_n 0, 1, [], 0) :: (856, .iload_n 3, 1, [], 0) :: (857, .iconst 2, 1, [], 0) :: (858, .iadd, 1, [], 0) :: (859, .iaload, 1, [], 0) :: (860, .invokevirtual 93, 3, [5, 2, 184, 11, 4151, 4152, 4153, 1001], 0) :: (863, .aload_n 2, 1, [], 0) :: (864, .aload_n 0, 1, [], 0) :: (865, .iload_n 3, 1, [], 0) :: (866, .iconst 1, 1, [], 0) :: (867, .iadd, 1, [], 0) :: (868, .iaload, 1, [], 0) :: (869, .aload_n 0, 1, [], 0) :: (870, .iload_n 3, 1, [], 0) :: (871, .iconst 2, 1, [], 0) :: (872, .iadd, 1, [], 0) :: (873, .iaload, 1, [], 0) :: (874, .invokevirtual 96, 3, [5, 2, 304, 12, 8165, 8166, 8167, 1008], 0) :: (877, .if_icmp .eq 1313, 3, [2190], 0) :: (880, .iconst 0, 1, [], 0) :: (881, .ireturn, 1, [1], 0) :: c384_882
def c384_805 : List JE := (805, .aload_n 1, 1, [], 0) :: (806, .aload_n 0, 1, [], 0) :: (807, .iload_n 3, 1, [], 0) :: (808, .iconst 1, 1, [], 0) :: (809, .iadd, 1, [], 0) :: (810, .iaload, 1, [], 0) :: (811, .aload_n 0, 1, [], 0) :: (812, .iload_n 3, 1, [], 0) :: (813, .iconst 2, 1, [], 0) :: (814, .iadd, 1, [], 0) :: (815, .iaload, 1, [], 0) :: (816, .aload_n 0, 1, [], 0) :: (817, .iload_n 3, 1, [], 0) :: (818, .iconst 3, 1, [], 0) :: (819, .iadd, 1, [], 0) :: (820, .iaload, 1, [], 0) :: (821, .invokevirtual 89, 3, [5, 3, 183, 11, 4139, 4140, 4141, 1001], 0) :: (824, .aload_n 2, 1, [], 0) :: (825, .aload_n 0, 1, [], 0) :: (826, .iload_n 3, 1, [], 0) :: (827, .iconst 1, 1, [], 0) :: (828, .iadd, 1, [], 0) :: (829, .iaload, 1, [], 0) :: (830, .aload_n 0, 1, [], 0) :: (831, .iload_n 3, 1, [], 0) :: (832, .iconst 2, 1, [], 0) :: (833, .iadd, 1, [], 0) :: (834, .iaload, 1, [], 0) :: (835, .aload_n 0, 1, [], 0) :: (836, .iload_n 3, 1, [], 0) :: (837, .iconst 3, 1, [], 0) :: (838, .iadd, 1, [], 0) :: (839, .iaload, 1, [], 0) :: (840, .invokevirtual 92, 3, [5, 3, 303, 12, 8161, 8162, 8163, 1008], 0) :: (843, .lcmp, 1, [], 0) :: (844, .ifCond .eq 1346, 3, [2190], 0) :: (847, .iconst 0, 1, [], 0) :: (848, .ireturn, 1, [1], 0) :: c384_849
def c384_762 : List JE := (762, .aload_n 1, 1, [], 0) :: (763, .aload_n 0, 1, [], 0) :: (764, .iload_n 3, 1, [], 0) :: (765, .iconst 1, 1, [], 0) :: (766, .iadd, 1, [], 0) :: (767, .iaload, 1, [], 0) :: (768, .aload_n 0, 1, [], 0) :: (769, .iload_n 3, 1, [], 0) :: (770, .iconst 2, 1, [], 0) :: (771, .iadd, 1, [], 0) :: (772, .iaload, 1, [], 0) :: (773, .aload_n 0, 1, [], 0) :: (774, .iload_n 3, 1, [], 0) :: (775, .iconst 3, 1, [], 0) :: (776, .iadd, 1, [], 0) :: (777, .iaload, 1, [], 0) :: (778, .invokevirtual 85, 3, [5, 3, 182, 11, 4127, 4128, 4129, 1001], 0) :: (781, .aload_n 2, 1, [], 0) :: (782, .aload_n 0, 1, [], 0) :: (783, .iload_n 3, 1, [], 0) :: (784, .iconst 1, 1, [], 0) :: (785, .iadd, 1, [], 0) :: (786, .iaload, 1, [], 0) :: (787, .aload_n 0, 1, [], 0) :: (788, .iload_n 3, 1, [], 0) :: (789, .iconst 2, 1, [], 0) :: (790, .iadd, 1, [], 0) :: (791, .iaload, 1, [], 0) :: (792, .aload_n 0, 1, [], 0) :: (793, .iload_n 3, 1, [], 0) :: (794, .iconst 3, 1, [], 0) :: (795, .iadd, 1, [], 0) :: (796, .iaload, 1, [], 0) :: (797, .invokevirtual 88, 3, [5, 3, 302, 12, 8157, 8158, 8159, 1008], 0) :: (800, .if_icmp .eq 1390, 3, [2190], 0) :: (803, .iconst 0, 1, [], 0) :: (804, .ireturn, 1, [1], 0) :: c384_805
def c384_718 : List JE := (718, .aload_n 1, 1, [], 0) :: (719, .aload_n 0, 1, [], 0) :: (720, .iload_n 3, 1, [], 0) :: (721, .iconst 1, 1, [], 0) :: (722, .iadd, 1, [], 0) :: (723, .iaload, 1, [], 0) :: (724, .aload_n 0, 1, [], 0) :: (725, .iload_n 3, 1, [], 0) :: (726, .iconst 2, 1, [], 0) :: (727, .iadd, 1, [], 0) :: (728, .iaload, 1, [], 0) :: (729, .aload_n 0, 1, [], 0) :: (730, .iload_n 3, 1, [], 0) :: (731, .iconst 3, 1, [], 0) :: (732, .iadd, 1, [], 0) :: (733, .iaload, 1, [], 0) :: (734, .invokevirtual 81, 3, [5, 3, 181, 11, 4046, 4047, 4048, 1001], 0) :: (737, .aload_n 2, 1, [], 0) :: (738, .aload_n 0, 1, [], 0) :: (739, .iload_n 3, 1, [], 0) :: (740, .iconst 1, 1, [], 0) :: (741, .iadd, 1, [], 0) :: (742, .iaload, 1, [], 0) :: (743, .aload_n 0, 1, [], 0) :: (744, .iload_n 3, 1, [], 0) :: (745, .iconst 2, 1, [], 0) :: (746, .iadd, 1, [], 0) :: (747, .iaload, 1, [], 0) :: (748, .aload_n 0, 1, [], 0) :: (749, .iload_n 3, 1, [], 0) :: (750, .iconst 3, 1, [], 0) :: (751, .iadd, 1, [], 0) :: (752, .iaload, 1, [], 0) :: (753, .invokevirtual 84, 3, [5, 3, 301, 12, 8111, 8112, 8113, 1008], 0) :: (756, .lcmp, 1, [], 0) :: (757, .ifCond .eq 1433, 3, [2190], 0) :: (760, .iconst 0, 1, [], 0) :: (761, .ireturn, 1, [1], 0) :: c384_762
def c384_685 : List JE := (685, .aload_n 1, 1, [], 0) :: (686, .aload_n 0, 1, [], 0) :: (687, .iload_n 3, 1, [], 0) :: (688, .iconst 1, 1, [], 0) :: (689, .iadd, 1, [], 0) :: (690, .iaload, 1, [], 0) :: (691, .aload_n 0, 1, [], 0) :: (692, .iload_n 3, 1, [], 0) :: (693, .iconst 2, 1, [], 0) :: (694, .iadd, 1, [], 0) :: (695, .iaload, 1, [], 0) :: (696, .invokevirtual 77, 3, [5, 2, 180, 11, 4014, 4015, 4016, 1001], 0) :: (699, .aload_n 2, 1, [], 0) :: (700, .aload_n 0, 1, [], 0) :: (701, .iload_n 3, 1, [], 0) :: (702, .iconst 1, 1, [], 0) :: (703, .iadd, 1, [], 0) :: (704, .iaload, 1, [], 0) :: (705, .aload_n 0, 1, [], 0) :: (706, .iload_n 3, 1, [], 0) :: (707, .iconst 2, 1, [], 0) :: (708, .iadd, 1, [], 0) :: (709, .iaload, 1, [], 0) :: (710, .invokevirtual 80, 3, [5, 2, 290, 12, 8091, 8092, 8093, 1008], 0) :: (713, .if_icmp .eq 1477, 3, [2190], 0) :: (716, .iconst 0, 1, [], 0) :: (717, .ireturn, 1, [1], 0) :: c384_718
def c384_652 : List JE := (652, .aload_n 1, 1, [], 0) :: (653, .aload_n 0, 1, [], 0) :: (654, .iload_n 3, 1, [], 0) :: (655, .iconst 1, 1, [], 0) :: (656, .iadd, 1, [], 0) :: (657, .iaload, 1, [], 0) :: (658, .aload_n 0, 1, [], 0) :: (659, .iload_n 3, 1, [], 0) :: (660, .iconst 2, 1, [], 0) :: (661, .iadd, 1, [], 0) :: (662, .iaload, 1, [], 0) :: (663, .invokevirtual 73, 3, [5, 2, 179, 11, 4002, 4003, 4004, 1001], 0) :: (666, .aload_n 2, 1, [], 0) :: (667, .aload_n 0, 1, [], 0) :: (668, .iload_n 3, 1, [], 0) :: (669, .iconst 1, 1, [], 0) :: (670, .iadd, 1, [], 0) :: (671, .iaload, 1, [], 0) :: (672, .aload_n 0, 1, [], 0) :: (673, .iload_n 3, 1, [], 0) :: (674, .iconst 2, 1, [], 0) :: (675, .iadd, 1, [], 0) :: (676, .iaload, 1, [], 0) :: (677, .invokevirtual 76, 3, [5, 2, 286, 12, 8087, 8088, 8089, 1008], 0) :: (680, .if_icmp .eq 1510, 3, [2190], 0) :: (683, .iconst 0, 1, [], 0) :: (684, .ireturn, 1, [1], 0) :: c384_685
def c384_619 : List JE := (619, .aload_n 1, 1, [], 0) :: (620, .aload_n 0, 1, [], 0) :: (621, .iload_n 3, 1, [], 0) :: (622, .iconst 1, 1, [], 0) :: (623, .iadd, 1, [], 0) :: (624, .iaload, 1, [], 0) :: (625, .aload_n 0, 1, [], 0) :: (626, .iload_n 3, 1, [], 0) :: (627, .iconst 2, 1, [], 0) :: (628, .iadd, 1, [], 0) :: (629, .iaload, 1, [], 0) :: (630, .invokevirtual 69, 3, [5, 2, 178, 11, 3184, 3185, 3186, 1001], 0) :: (633, .aload_n 2, 1, [], 0) :: (634, .aload_n 0, 1, [], 0) :: (635, .iload_n 3, 1, [], 0) :: (636, .iconst 1, 1, [], 0) :: (637, .iadd, 1, [], 0) :: (638, .iaload, 1, [], 0) :: (639, .aload_n 0, 1, [], 0) :: (640, .iload_n 3, 1, [], 0) :: (641, .iconst 2, 1, [], 0) :: (642, .iadd, 1, [], 0) :: (643, .iaload, 1, [], 0) :: (644, .invokevirtual 72, 3, [5, 2, 285, 12, 8083, 8084, 8085, 1008], 0) :: (647, .if_icmp .eq 1543, 3, [2190], 0) :: (650, .iconst 0, 1, [], 0) :: (651, .ireturn, 1, [1], 0) :: c384_652
def c384_606 : List JE := (606, .aload_n 1, 1, [], 0) :: (607, .invokevirtual 65, 3, [5, 0, 177, 11, 3180, 3181, 3182, 1001], 0) :: (610, .aload_n 2, 1, [], 0) :: (611, .invokevirtual 68, 3, [5, 0, 283, 12, 8079, 8080, 8081, 1008], 0) :: (614, .if_icmp .eq 1576, 3, [2190], 0) :: (617, .iconst 0, 1, [], 0) :: (618, .ireturn, 1, [1], 0) :: c384_619
def c384_593 : List JE := (593, .aload_n 1, 1, [], 0) :: (594, .invokevirtual 61, 3, [5, 0, 176, 11, 3172, 3173, 3174, 1001], 0) :: (597, .aload_n 2, 1, [], 0) :: (598, .invokevirtual 64, 3, [5, 0, 282, 12, 8075, 8076, 8077, 1008], 0) :: (601, .if_icmp .eq 1589, 3, [2190], 0) :: (604, .iconst 0, 1, [], 0) :: (605, .ireturn, 1, [1], 0) :: c384_606
def c384_540 : List JE := (540, .aload_n 1, 1, [], 0) :: (541, .aload_n 0, 1, [], 0) :: (542, .iload_n 3, 1, [], 0) :: (543, .iconst 1, 1, [], 0) :: (544, .iadd, 1, [], 0) :: (545, .iaload, 1, [], 0) :: (546, .aload_n 0, 1, [], 0) :: (547, .iload_n 3, 1, [], 0) :: (548, .iconst 2, 1, [], 0) :: (549, .iadd, 1, [], 0) :: (550, .iaload, 1, [], 0) :: (551, .aload_n 0, 1, [], 0) :: (552, .iload_n 3, 1, [], 0) :: (553, .iconst 3, 1, [], 0) :: (554, .iadd, 1, [], 0) :: (555, .iaload, 1, [], 0) :: (556, .aload_n 0, 1, [], 0) :: (557, .iload_n 3, 1, [], 0) :: (558, .iconst 4, 1, [], 0) :: (559, .iadd, 1, [], 0) :: (560, .iaload, 1, [], 0) :: (561, .invokevirtual 57, 3, [5, 4, 175, 11, 3147, 3148, 3149, 1001], 0) :: (564, .aload_n 2, 1, [], 0) :: (565, .aload_n 0, 1, [], 0) :: (566, .iload_n 3, 1, [], 0) :: (567, .iconst 1, 1, [], 0) :: (568, .iadd, 1, [], 0) :: (569, .iaload, 1, [], 0) :: (570, .aload_n 0, 1, [], 0) :: (571, .iload_n 3, 1, [], 0) :: (572, .iconst 2, 1, [], 0) :: (573, .iadd, 1, [], 0) :: (574, .iaload, 1, [], 0) :: (575, .aload_n 0, 1, [], 0) :: (576, .iload_n 3, 1, [], 0) :: (577, .iconst 3, 1, [], 0) :: (578, .iadd, 1, [], 0) :: (579, .iaload, 1, [], 0) :: (580, .aload_n 0, 1, [], 0) :: (581, .iload_n 3, 1, [], 0) :: (582, .iconst 4, 1, [], 0) :: (583, .iadd, 1, [], 0) :: (584, .iaload, 1, [], 0) :: (585, .invokevirtual 60, 3, [5, 4, 281, 12, 8059, 8060, 8061, 1008], 0) :: (588, .if_icmp .eq 1602, 3, [2190], 0) :: (591, .iconst 0, 1, [], 0) :: (592, .ireturn, 1, [1], 0) :: c384_593
def c384_497 : List JE := (497, .aload_n 1, 1, [], 0) :: (498, .aload_n 0, 1, [], 0) :: (499, .iload_n 3, 1, [], 0) :: (500, .iconst 1, 1, [], 0) :: (501, .iadd, 1, [], 0) :: (502, .iaload, 1, [], 0) :: (503, .aload_n 0, 1, [], 0) :: (504, .iload_n 3, 1, [], 0) :: (505, .iconst 2, 1, [], 0) :: (506, .iadd, 1, [], 0) :: (507, .iaload, 1, [], 0) :: (508, .aload_n 0, 1, [], 0) :: (509, .iload_n 3, 1, [], 0) :: (510, .iconst 3, 1, [], 0) :: (511, .iadd, 1, [], 0) :: (512, .iaload, 1, [], 0) :: (513, .invokevirtual 52, 3, [5, 3, 174, 11, 3108, 3109, 3110, 1001], 0) :: (516, .aload_n 2, 1, [], 0) :: (517, .aload_n 0, 1, [], 0) :: (518, .iload_n 3, 1, [], 0) :: (519, .iconst 1, 1, [], 0) :: (520, .iadd, 1, [], 0) :: (521, .iaload, 1, [], 0) :: (522, .aload_n 0, 1, [], 0) :: (523, .iload_n 3, 1, [], 0) :: (524, .iconst 2, 1, [], 0) :: (525, .iadd, 1, [], 0) :: (526, .iaload, 1, [], 0) :: (527, .aload_n 0, 1, [], 0) :: (528, .iload_n 3, 1, [], 0) :: (529, .iconst 3, 1, [], 0) :: (530, .iadd, 1, [], 0) :: (531, .iaload, 1, [], 0) :: (532, .invokevirtual 56, 3, [5, 3, 275, 12, 8042, 8043, 8044, 1008], 0) :: (535, .if_icmp .eq 1655, 3, [2190], 0) :: (538, .iconst 0, 1, [], 0) :: (539, .ireturn, 1, [1], 0) :: c384_540
def c384_484 : List JE := (484, .aload_n 1, 1, [], 0) :: (485, .invokevirtual 47, 3, [5, 0, 173, 11, 2195, 2196, 2197, 1001], 0) :: (488, .aload_n 2, 1, [], 0) :: (489, .invokevirtual 51, 3, [5, 0, 274, 12, 7238, 7239, 8000, 1008], 0) :: (492, .if_icmp .eq 1698, 3, [2190], 0) :: (495, .iconst 0, 1, [], 0) :: (496, .ireturn, 1, [1], 0) :: c384_497
def c384_451 : List JE := (451, .aload_n 1, 1, [], 0) :: (452, .aload_n 0, 1, [], 0) :: (453, .iload_n 3, 1, [], 0) :: (454, .iconst 1, 1, [], 0) :: (455, .iadd, 1, [], 0) :: (456, .iaload, 1, [], 0) :: (457, .aload_n 0, 1, [], 0) :: (458, .iload_n 3, 1, [], 0) :: (459, .iconst 2, 1, [], 0) :: (460, .iadd, 1, [], 0) :: (461, .iaload, 1, [], 0) :: (462, .invokevirtual 43, 3, [5, 2, 172, 11, 2183, 2184, 2185, 1001], 0) :: (465, .aload_n 2, 1, [], 0) :: (466, .aload_n 0, 1, [], 0) :: (467, .iload_n 3, 1, [], 0) :: (468, .iconst 1, 1, [], 0) :: (469, .iadd, 1, [], 0) :: (470, .iaload, 1, [], 0) :: (471, .aload_n 0, 1, [], 0) :: (472, .iload_n 3, 1, [], 0) :: (473, .iconst 2, 1, [], 0) :: (474, .iadd, 1, [], 0) :: (475, .iaload, 1, [], 0) :: (476, .invokevirtual 46, 3, [5, 2, 263, 12, 7234, 7235, 7236, 1008], 0) :: (479, .if_icmp .eq 1711, 3, [2190], 0) :: (482, .iconst 0, 1, [], 0) :: (483, .ireturn, 1, [1], 0) :: c384_484
def c384_407 : List JE := (407, .aload_n 1, 1, [], 0) :: (408, .aload_n 0, 1, [], 0) :: (409, .iload_n 3, 1, [], 0) :: (410, .iconst 1, 1, [], 0) :: (411, .iadd, 1, [], 0) :: (412, .iaload, 1, [], 0) :: (413, .aload_n 0, 1, [], 0) :: (414, .iload_n 3, 1, [], 0) :: (415, .iconst 2, 1, [], 0) :: (416, .iadd, 1, [], 0) :: (417, .iaload, 1, [], 0) :: (418, .aload_n 0, 1, [], 0) :: (419, .iload_n 3, 1, [], 0) :: (420, .iconst 3, 1, [], 0) :: (421, .iadd, 1, [], 0) :: (422, .iaload, 1, [], 0) :: (423, .invokevirtual 38, 3, [5, 3, 171, 11, 2160, 2161, 2162, 1001], 0) :: (426, .aload_n 2, 1, [], 0) :: (427, .aload_n 0, 1, [], 0) :: (428, .iload_n 3, 1, [], 0) :: (429, .iconst 1, 1, [], 0) :: (430, .iadd, 1, [], 0) :: (431, .iaload, 1, [], 0) :: (432, .aload_n 0, 1, [], 0) :: (433, .iload_n 3, 1, [], 0) :: (434, .iconst 2, 1, [], 0) :: (435, .iadd, 1, [], 0) :: (436, .iaload, 1, [], 0) :: (437, .aload_n 0, 1, [], 0) :: (438, .iload_n 3, 1, [], 0) :: (439, .iconst 3, 1, [], 0) :: (440, .iadd, 1, [], 0) :: (441, .iaload, 1, [], 0) :: (442, .invokevirtual 42, 3, [5, 3, 260, 12, 7219, 7220, 7221, 1008], 0) :: (445, .lcmp, 1, [], 0) :: (446, .ifCond .eq 1744, 3, [2190], 0) :: (449, .iconst 0, 1, [], 0) :: (450, .ireturn, 1, [1], 0) :: c384_451
def c384_383 : List JE := (383, .aload_n 1, 1, [], 0) :: (384, .aload_n 0, 1, [], 0) :: (385, .iload_n 3, 1, [], 0) :: (386, .iconst 1, 1, [], 0) :: (387, .iadd, 1, [], 0) :: (388, .iaload, 1, [], 0) :: (389, .invokevirtual 33, 3, [5, 1, 170, 11, 2143, 2144, 2145, 1001], 0) :: (392, .aload_n 2, 1, [], 0) :: (393, .aload_n 0, 1, [], 0) :: (394, .iload_n 3, 1, [], 0) :: (395, .iconst 1, 1, [], 0) :: (396, .iadd, 1, [], 0) :: (397, .iaload, 1, [], 0) :: (398, .invokevirtual 37, 3, [5, 1, 257, 12, 7206, 7207, 7208, 1008], 0) :: (401, .lcmp, 1, [], 0) :: (402, .ifCond .eq 1788, 3, [2190], 0) :: (405, .iconst 0, 1, [], 0) :: (406, .ireturn, 1, [1], 0) :: c384_407
def c384_369 : List JE := (369, .aload_n 1, 1, [], 0) :: (370, .invokevirtual 28, 3, [5, 0, 169, 11, 2102, 2103, 2104, 1001], 0) :: (373, .aload_n 2, 1, [], 0) :: (374, .invokevirtual 32, 3, [5, 0, 254, 12, 7185, 7186, 7187, 1008], 0) :: (377, .lcmp, 1, [], 0) :: (378, .ifCond .eq 1812, 3, [2190], 0) :: (381, .iconst 0, 1, [], 0) :: (382, .ireturn, 1, [1], 0) :: c384_383
def c384_316 : List JE := (316, .aload_n 1, 1, [], 0) :: (317, .aload_n 0, 1, [], 0) :: (318, .iload_n 3, 1, [], 0) :: (319, .iconst 1, 1, [], 0) :: (320, .iadd, 1, [], 0) :: (321, .iaload, 1, [], 0) :: (322, .aload_n 0, 1, [], 0) :: (323, .iload_n 3, 1, [], 0) :: (324, .iconst 2, 1, [], 0) :: (325, .iadd, 1, [], 0) :: (326, .iaload, 1, [], 0) :: (327, .aload_n 0, 1, [], 0) :: (328, .iload_n 3, 1, [], 0) :: (329, .iconst 3, 1, [], 0) :: (330, .iadd, 1, [], 0) :: (331, .iaload, 1, [], 0) :: (332, .aload_n 0, 1, [], 0) :: (333, .iload_n 3, 1, [], 0) :: (334, .iconst 4, 1, [], 0) :: (335, .iadd, 1, [], 0) :: (336, .iaload, 1, [], 0) :: (337, .invokevirtual 23, 3, [5, 4, 168, 11, 2074, 2075, 2076, 1001], 0) :: (340, .aload_n 2, 1, [], 0) :: (341, .aload_n 0, 1, [], 0) :: (342, .iload_n 3, 1, [], 0) :: (343, .iconst 1, 1, [], 0) :: (344, .iadd, 1, [], 0) :: (345, .iaload, 1, [], 0) :: (346, .aload_n 0, 1, [], 0) :: (347, .iload_n 3, 1, [], 0) :: (348, .iconst 2, 1, [], 0) :: (349, .iadd, 1, [], 0) :: (350, .iaload, 1, [], 0) :: (351, .aload_n 0, 1, [], 0) :: (352, .iload_n 3, 1, [], 0) :: (353, .iconst 3, 1, [], 0) :: (354, .iadd, 1, [], 0) :: (355, .iaload, 1, [], 0) :: (356, .aload_n 0, 1, [], 0) :: (357, .iload_n 3, 1, [], 0) :: (358, .iconst 4, 1, [], 0) :: (359, .iadd, 1, [], 0) :: (360, .iaload, 1, [], 0) :: (361, .invokevirtual 27, 3, [5, 4, 250, 12, 7169, 7170, 7171, 1008], 0) :: (364, .if_icmp .eq 1826, 3, [2190], 0) :: (367, .iconst 0, 1, [], 0) :: (368, .ireturn, 1, [1], 0) :: c384_369
def c384_283 : List JE := (283, .aload_n 1, 1, [], 0) :: (284, .aload_n 0, 1, [], 0) :: (285, .iload_n 3, 1, [], 0) :: (286, .iconst 1, 1, [], 0) :: (287, .iadd, 1, [], 0) :: (288, .iaload, 1, [], 0) :: (289, .aload_n 0, 1, [], 0) :: (290, .iload_n 3, 1, [], 0) :: (291, .iconst 2, 1, [], 0) :: (292, .iadd, 1, [], 0) :: (293, .iaload, 1, [], 0) :: (294, .invokevirtual 18, 3, [5, 2, 167, 11, 2057, 2058, 2059, 1001], 0) :: (297, .aload_n 2, 1, [], 0) :: (298, .aload_n 0, 1, [], 0) :: (299, .iload_n 3, 1, [], 0) :: (300, .iconst 1, 1, [], 0) :: (301, .iadd, 1, [], 0) :: (302, .iaload, 1, [], 0) :: (303, .aload_n 0, 1, [], 0) :: (304, .iload_n 3, 1, [], 0) :: (305, .iconst 2, 1, [], 0) :: (306, .iadd, 1, [], 0) :: (307, .iaload, 1, [], 0) :: (308, .invokevirtual 22, 3, [5, 2, 248, 12, 7161, 7162, 7163, 1008], 0) :: (311, .if_icmp .eq 1879, 3, [2190], 0) :: (314, .iconst 0, 1, [], 0) :: (315, .ireturn, 1, [1], 0) :: c384_316
def c384_260 : List JE := (260, .aload_n 1, 1, [], 0) :: (261, .aload_n 0, 1, [], 0) :: (262, .iload_n 3, 1, [], 0) :: (263, .iconst 1, 1, [], 0) :: (264, .iadd, 1, [], 0) :: (265, .iaload, 1, [], 0) :: (266, .invokevirtual 13, 3, [5, 1, 166, 11, 2042, 2043, 2044, 1001], 0) :: (269, .aload_n 2, 1, [], 0) :: (270, .aload_n 0, 1, [], 0) :: (271, .iload_n 3, 1, [], 0) :: (272, .iconst 1, 1, [], 0) :: (273, .iadd, 1, [], 0) :: (274, .iaload, 1, [], 0) :: (275, .invokevirtual 17, 3, [5, 1, 247, 12, 7154, 7155, 7156, 1008], 0) :: (278, .if_icmp .eq 1912, 3, [2190], 0) :: (281, .iconst 0, 1, [], 0) :: (282, .ireturn, 1, [1], 0) :: c384_283
def c384_18 : List JE := (18, .iload_n 3, 1, [], 0) :: (19, .aload_n 0, 1, [], 0) :: (20, .arraylength, 1, [], 0) :: (21, .bipush 6, 2, [], 0) :: (23, .isub, 1, [], 0) :: (24, .if_icmp .gt 2172, 3, [2196], 0) :: (27, .aload_n 0, 1, [], 0) :: (28, .iload_n 3, 1, [], 0) :: (29, .iaload, 1, [], 0) :: (30, .bipush 63, 2, [], 0) :: (32, .iand, 1, [], 0) :: (33, .tableswitch 2157 0 52 #[227, 250, 283, 336, 350, 374, 418, 451, 464, 507, 560, 573, 586, 619, 652, 685, 729, 772, 816, 849, 903, 936, 980, 1034, 1057, 1100, 1153, 1176, 1229, 1283, 1316, 1359, 1382, 1405, 1428, 1471, 1494, 1527, 1540, 1573, 1606, 1659, 1702, 1746, 1789, 1832, 1855, 1888, 1931, 2004, 2038, 2101, 2134], 227, [2190, 260, 283, 316, 369, 383, 407, 451, 484, 497, 540, 593, 606, 619, 652, 685, 718, 762, 805, 849, 882, 936, 969, 1013, 1067, 1090, 1133, 1186, 1209, 1262, 1316, 1349, 1392, 1415, 1438, 1461, 1504, 1527, 1560, 1573, 1606, 1639, 1692, 1735, 1779, 1822, 1865, 1888, 1921, 1964, 2037, 2071, 2134, 2167], 0) :: c384_260
def c384_0 : List JE := (0, .new 7, 3, [11, 1017, 1018, 1001], 0) :: (3, .dup, 1, [], 0) :: (4, .invokespecial 9, 3, [1, 0, 165, 1019, 1020, 1001], 0) :: (7, .astore_n 1, 1, [], 0) :: (8, .new 10, 3, [12, 6190, 6191, 1008], 0) :: (11, .dup, 1, [], 0) :: (12, .invokespecial 12, 3, [1, 0, 241, 6192, 6193, 1008], 0) :: (15, .astore_n 2, 1, [], 0) :: (16, .iconst 0, 1, [], 0) :: (17, .istore_n 3, 1, [], 0) :: c384_18
def jMI_0 : List JM := [(3, 1147), (0, 6185), (1, 4045), (0, 4075), (0, 4115), (1, 6066), (1, 6091), (1, 6089), (1, 6117), (3, 3196), (0, 6172), (1, 4028), (1, 6074), (3, 3206), (0, 6175), (0, 4071), (1, 6095), (3, 3226), (0, 6178), (1, 4040)]
def jPL_0 : List (List JE) := [c0_0, c1_0, c2_0, c3_0, c4_0, c5_0, c6_0, c7_0, c8_0, c9_0, c10_0, c11_0, c12_0, c13_0, c14_0, c15_0, c16_0, c17_0, c18_0, c19_0]
def jMI_1 : List JM := [(1, 6054), (1, 3039), (4, 3095), (3, 3099), (1, 3103), (2, 3137), (2, 3133), (1, 3121), (1, 3129), (1, 3125), (2, 3146), (2, 3141), (2, 3154), (2, 3159), (2, 3163), (3, 3168), (1, 4134), (2, 4138), (1, 4218), (0, 4096)]
def jPL_1 : List (List JE) := [c20_0, c21_0, c22_0, c23_0, c24_0, c25_0, c26_0, c27_0, c28_0, c29_0, c30_0, c31_0, c32_0, c33_0, c34_0, c35_0, c36_0, c37_0, c38_0, c39_0]
def jMI_2 : List JM := [(2, 5025), (2, 5033), (0, 4062), (3, 4058), (2, 4081), (3, 4085), (2, 4089), (3, 4054), (2, 4146), (1, 4150), (4, 4196), (2, 4119), (1, 4126), (1, 6037), (0, 4163), (1, 4188), (2, 4158), (3, 4167), (2, 4179), (3, 4175)]
def jPL_2 : List (List JE) := [c40_0, c41_0, c42_0, c43_0, c44_0, c45_0, c46_0, c47_0, c48_0, c49_0, c50_0, c51_0, c52_0, c53_0, c54_0, c55_0, c56_0, c57_0, c58_0, c59_0]
def jMI_3 : List JM := [(5, 4227), (2, 4235), (0, 1064), (1, 2190), (2, 2194), (0, 3107), (1, 3029), (1, 2202), (0, 2206), (0, 2238), (0, 2214), (1, 2210), (1, 2226), (1, 2230), (3, 2218), (0, 3025), (1, 2234), (2, 3021), (3, 2222), (3, 3012)]
def jPL_3 : List (List JE) := [c60_0, c61_0, c62_0, c63_0, c64_0, c65_0, c66_0, c67_0, c68_0, c69_0, c70_0, c71_0, c72_0, c73_0, c74_0, c75_0, c76_0, c77_0, c78_0, c79_0]
def jMI_4 : List JM := [(4, 3002), (1, 3033), (5, 3091), (3, 3216), (0, 6181), (0, 4113), (1, 6081), (1, 6112), (0, 1121), (0, 4009), (2, 4013), (1, 4032), (2, 4036), (0, 6045), (1, 6058), (1, 6127), (1, 6131), (3, 3236), (0, 6184), (1, 4044)]
def jPL_4 : List (List JE) := [c80_0, c81_0, c82_0, c83_0, c84_0, c85_0, c86_0, c87_0, c88_0, c89_0, c90_0, c91_0, c92_0, c93_0, c94_0, c95_0, c96_0, c97_0, c98_0, c99_0]
def jMI_5 : List JM := [(1, 6063), (1, 6099), (0, 1178), (2, 5051), (0, 5076), (2, 5060), (3, 5068), (4, 5064), (2, 5084), (1, 5080), (0, 5092), (0, 5106), (0, 5110), (0, 5100), (0, 5096), (0, 5114), (1, 5122), (3, 5126), (4, 5130), (3, 5138)]
def jPL_5 : List (List JE) := [c100_0, c101_0, c102_0, c103_0, c104_0, c105_0, c106_0, c107_0, c108_0, c109_0, c110_0, c111_0, c112_0, c113_0, c114_0, c115_0, c116_0, c117_0, c118_0, c119_0]
def jMI_6 : List JM := [(1, 5146), (0, 5186), (2, 5154), (2, 5162), (1, 5158), (2, 5166), (0, 5170), (3, 5178), (2, 5174), (2, 5194), (0, 5202), (2, 5214), (2, 5210), (1, 5206), (3, 5224), (4, 5228), (3, 6012), (3, 6007), (0, 1029), (1, 2049)]
def jPL_6 : List (List JE) := [c120_0, c121_0, c122_0, c123_0, c124_0, c125_0, c126_0, c127_0, c128_0, c129_0, c130_0, c131_0, c132_0, c133_0, c134_0, c135_0, c136_0, c137_0, c138_0, c139_0]
def jMI_7 : List JM := [(1, 2064), (1, 3017), (1, 2068), (2, 2073), (1, 2053), (1, 2085), (3, 2081), (3, 2056), (1, 2090), (2, 2094), (2, 2121), (1, 2117), (0, 2113), (0, 2109), (0, 2129), (1, 2133), (1, 2137), (0, 2141), (1, 2167), (1, 2150)]
def jPL_7 : List (List JE) := [c140_0, c141_0, c142_0, c143_0, c144_0, c145_0, c146_0, c147_0, c148_0, c149_0, c150_0, c151_0, c152_0, c153_0, c154_0, c155_0, c156_0, c157_0, c158_0, c159_0]
def jMI_8 : List JM := [(1, 2155), (1, 2159), (1, 2177), (2, 2174), (3, 6033), (0, 1021), (1, 2045), (2, 2060), (4, 2077), (0, 2105), (1, 2146), (3, 2163), (2, 2186), (0, 2198), (3, 3111), (4, 3150), (0, 3175), (0, 3183), (2, 3187), (2, 4005)]
def jPL_8 : List (List JE) := [c160_0, c161_0, c162_0, c163_0, c164_0, c165_0, c166_0, c167_0, c168_0, c169_0, c170_0, c171_0, c172_0, c173_0, c174_0, c175_0, c176_0, c177_0, c178_0, c179_0]
def jMI_9 : List JM := [(2, 4017), (3, 4049), (3, 4130), (3, 4142), (2, 4154), (4, 4171), (2, 4184), (3, 4192), (4, 4202), (1, 4206), (3, 4210), (4, 4223), (1, 4239), (4, 5003), (4, 5038), (2, 5047), (3, 5056), (1, 5072), (1, 5088), (1, 5118)]
def jPL_9 : List (List JE) := [c180_0, c181_0, c182_0, c183_0, c184_0, c185_0, c186_0, c187_0, c188_0, c189_0, c190_0, c191_0, c192_0, c193_0, c194_0, c195_0, c196_0, c197_0, c198_0, c199_0]
def jMI_10 : List JM := [(3, 5134), (1, 5142), (2, 5150), (0, 5182), (2, 5190), (2, 5198), (4, 5221), (3, 5232), (3, 6003), (3, 6027), (3, 6041), (1, 6123), (2, 6135), (3, 6139), (3, 6143), (2, 6154), (5, 6158), (2, 6162), (1, 6189), (1, 3115)]
def jPL_10 : List (List JE) := [c200_0, c201_0, c202_0, c203_0, c204_0, c205_0, c206_0, c207_0, c208_0, c209_0, c210_0, c211_0, c212_0, c213_0, c214_0, c215_0, c216_0, c217_0, c218_0, c219_0]
def jMI_11 : List JM := [(1, 4021), (1, 2170), (1, 5235), (3, 2181), (2, 2124), (3, 3191), (2, 6165), (4, 4101), (3, 3171), (3, 2098), (2, 3179), (3, 4214), (2, 5007), (2, 5011), (3, 5016), (3, 5021), (1, 5029), (4, 5042), (3, 5239), (2, 6147)]
def jPL_11 : List (List JE) := [c220_0, c221_0, c222_0, c223_0, c224_0, c225_0, c226_0, c227_0, c228_0, c229_0, c230_0, c231_0, c232_0, c233_0, c234_0, c235_0, c236_0, c237_0, c238_0, c239_0]
def jMI_12 : List JM := [(2, 6150), (0, 6194), (3, 7160), (2, 7203), (3, 7233), (1, 7168), (1, 7180), (1, 7157), (2, 7164), (3, 7176), (4, 7172), (2, 7200), (1, 7196), (0, 7192), (0, 7188), (1, 7218), (0, 7214), (1, 7209), (1, 7226), (2, 7230)]
def jPL_12 : List (List JE) := [c240_0, c241_0, c242_0, c243_0, c244_0, c245_0, c246_0, c247_0, c248_0, c249_0, c250_0, c251_0, c252_0, c253_0, c254_0, c255_0, c256_0, c257_0, c258_0, c259_0]
def jMI_13 : List JM := [(3, 7222), (1, 8049), (2, 8054), (2, 7237), (1, 8009), (1, 8029), (1, 8013), (3, 8025), (3, 8033), (2, 8041), (4, 8021), (4, 8037), (4, 8017), (0, 8005), (0, 8001), (3, 8045), (1, 8058), (2, 8070), (3, 8066), (4, 7184)]
def jPL_13 : List (List JE) := [c260_0, c261_0, c262_0, c263_0, c264_0, c265_0, c266_0, c267_0, c268_0, c269_0, c270_0, c271_0, c272_0, c273_0, c274_0, c275_0, c276_0, c277_0, c278_0, c279_0]
def jMI_14 : List JM := [(3, 8074), (4, 8062), (0, 8078), (0, 8082), (1, 8098), (2, 8086), (2, 8090), (1, 8110), (1, 8106), (3, 8102), (2, 8094), (4, 8123), (1, 8135), (0, 8131), (2, 8127), (2, 8139), (3, 8147), (0, 8143), (4, 8119), (1, 8151)]
def jPL_14 : List (List JE) := [c280_0, c281_0, c282_0, c283_0, c284_0, c285_0, c286_0, c287_0, c288_0, c289_0, c290_0, c291_0, c292_0, c293_0, c294_0, c295_0, c296_0, c297_0, c298_0, c299_0]
def jMI_15 : List JM := [(1, 8156), (3, 8114), (3, 8160), (3, 8164), (2, 8168), (2, 8176), (4, 8172), (2, 8184), (2, 8180), (3, 8200), (2, 8196), (1, 8192), (3, 8188), (4, 8204), (1, 8208), (1, 8224), (1, 8220), (2, 8228), (4, 8216), (3, 8212)]
def jPL_15 : List (List JE) := [c300_0, c301_0, c302_0, c303_0, c304_0, c305_0, c306_0, c307_0, c308_0, c309_0, c310_0, c311_0, c312_0, c313_0, c314_0, c315_0, c316_0, c317_0, c318_0, c319_0]
def jMI_16 : List JM := [(4, 8232), (1, 8236), (3, 9004), (3, 9008), (4, 9012), (3, 9020), (4, 9016), (4, 9000), (4, 9027), (4, 9024), (2, 9032), (3, 9036), (2, 9044), (1, 9040), (2, 9051), (2, 9054), (1, 9048), (4, 9062), (1, 9058), (3, 9066)]
def jPL_16 : List (List JE) := [c320_0, c321_0, c322_0, c323_0, c324_0, c325_0, c326_0, c327_0, c328_0, c329_0, c330_0, c331_0, c332_0, c333_0, c334_0, c335_0, c336_0, c337_0, c338_0, c339_0]
def jMI_17 : List JM := [(1, 9070), (3, 9082), (3, 9086), (3, 9078), (2, 9089), (2, 9074), (0, 9093), (2, 9097), (2, 9105), (2, 9101), (3, 9113), (4, 9110), (3, 9117), (3, 9125), (3, 9131), (2, 9219), (1, 9144), (2, 9152), (2, 9148), (2, 9140)]
def jPL_17 : List (List JE) := [c340_0, c341_0, c342_0, c343_0, c344_0, c345_0, c346_0, c347_0, c348_0, c349_0, c350_0, c351_0, c352_0, c353_0, c354_0, c355_0, c356_0, c357_0, c358_0, c359_0]
def jMI_18 : List JM := [(2, 9164), (2, 9160), (2, 9156), (2, 9172), (2, 9168), (2, 9180), (2, 9176), (3, 9136), (1, 9184), (1, 9188), (1, 9120), (2, 9192), (3, 9196), (2, 9204), (3, 9200), (2, 9208), (5, 9212), (2, 9216), (2, 6020), (2, 3005)]
def jPL_18 : List (List JE) := [c360_0, c361_0, c362_0, c363_0, c364_0, c365_0, c366_0, c367_0, c368_0, c369_0, c370_0, c371_0, c372_0, c373_0, c374_0, c375_0, c376_0, c377_0, c378_0, c379_0]
def jMI_19 : List JM := [(2, 6016), (2, 3008), (2, 4092), (2, 1229)]
def jPL_19 : List (List JE) := [c380_0, c381_0, c382_0, c383_0, c384_0]
def jMI : List (List JM) := [jMI_0, jMI_1, jMI_2, jMI_3, jMI_4, jMI_5, jMI_6, jMI_7, jMI_8, jMI_9, jMI_10, jMI_11, jMI_12, jMI_13, jMI_14, jMI_15, jMI_16, jMI_17, jMI_18, jMI_19]
def jPL : List (List (List JE)) := [jPL_0, jPL_1, jPL_2, jPL_3, jPL_4, jPL_5, jPL_6, jPL_7, jPL_8, jPL_9, jPL_10, jPL_11, jPL_12, jPL_13, jPL_14, jPL_15, jPL_16, jPL_17, jPL_18, jPL_19]
def jnM : Nat := 384
end
section
def jM (k : Nat) : JM := (jMI.getD (k / 20) []).getD (k % 20) (0, 0)
def jNA (k : Nat) : Nat := (jM k).1
def jCW (k : Nat) : Nat := (jM k).2
/-- a method as the tables have it: its name, its bytes, its locals, what it answers -/
def jCd (k : Nat) : MethodName × ByteArray × Nat × Option FieldType := if k = jnM then (x, code, maxLocals, ret) else match jword (jCW k) with
  | some w => (match w with
    | .code y b m r => (y, b, m, r)
    | _ => (⟨"", "", ""⟩, ⟨#[]⟩, 0, none))
  | none => (⟨"", "", ""⟩, ⟨#[]⟩, 0, none)
def jY (k : Nat) : MethodName := (jCd k).1
def jBy (k : Nat) : ByteArray := (jCd k).2.1
def jML (k : Nat) : Nat := (jCd k).2.2.1
def jRt (k : Nat) : Option FieldType := (jCd k).2.2.2
def jcw (k : Nat) : Bool := decide (k ≠ jnM) && (match jword (jCW k) with
  | some w => (match w with
    | .code _ _ _ _ => true
    | _ => false) && goodWord w
  | none => false)
theorem jcw_mem {k : Nat} (h : jcw k = true) : Cond.code (jY k) (jBy k) (jML k) (jRt k) ∈ jTB := by
  unfold jcw at h
  rw [Bool.and_eq_true, decide_eq_true_eq] at h
  obtain ⟨hne, h⟩ := h
  unfold jY jBy jML jRt jCd
  rw [if_neg hne]
  cases hw : jword (jCW k) with
  | none => rw [hw] at h; cases h
  | some w =>
    rw [hw] at h
    simp only [Bool.and_eq_true] at h
    have hm := List.mem_filter.mpr ⟨jword_mem hw, h.2⟩
    have h1 := h.1
    split at h1
    · exact hm
    · cases h1
def jWs (k : Nat) : List Cond := Cond.code (jY k) (jBy k) (jML k) (jRt k) :: jTB
def jmathL : List (String × String) := [("floorDiv", "(JJ)J"), ("max", "(II)I"), ("max", "(JJ)J"), ("min", "(II)I"), ("min", "(JJ)J")]
def jpl (y : MethodName) : Bool := plainName y.cls || (y.cls == "java/lang/Math" && jmathL.contains (y.name, y.desc))
set_option maxRecDepth 100000 in
theorem jmath_no : natives.all (fun r => jmathL.all (fun q => !(r.name == q.1 && r.cls == "java/lang/Math" && r.desc == q.2))) = true := by decide +kernel
theorem jpl_ok {y : MethodName} (h : jpl y = true) : plainFor y = true := by
  unfold jpl at h
  unfold plainFor
  rw [Bool.or_eq_true] at h ⊢
  rcases h with h | h
  · exact Or.inl h
  · rw [Bool.and_eq_true, beq_iff_eq, List.contains_iff_mem] at h
    refine Or.inr ?_
    rw [Option.isNone_iff_eq_none]
    unfold NativeRow.find?
    rw [List.find?_eq_none]
    intro r hr
    have h1 := List.all_eq_true.mp (List.all_eq_true.mp jmath_no r hr) _ h.2
    rw [h.1]
    intro h2
    rw [h2] at h1
    cases h1
def jmOk (k : Nat) : Bool := decide ((jY k).cls ≠ "java/lang/invoke/MethodHandle") && decide ((jY k).cls ≠ "java/lang/invoke/VarHandle") && jpl (jY k) && decide ((parseMethodDescriptor (jY k).desc).map (fun d => d.parameters.length) = some (jNA k)) && jcw k && decide (jML k ≤ 40)
def jP (k : Nat) : List JE := (jPL.getD (k / 20) []).getD (k % 20) []
/-- a call of depth d at most: what it answers and leaves -/
def jOk : Nat → Nat → Nat → Nat → List AV → JH → (Option AV → JH → Prop) → Prop
  | 0, _, _, _, _, _, _ => False
  | d + 1, a, b, k, as, h, Q => k < jnM ∧ (jexp as).length ≤ jML k ∧ jEv (jOk d) none (fun _ => 0) (jP k) a b Q (jP k, jentry as (jML k), [], h, 0, 0)
def jtags (f : Nat) : List Nat := if f = 0 then [0, 1, 2, 3, 6, 8] else [f]
theorem jfam_in {f t : Nat} (h : jfam f t = true) : t ∈ jtags f := by
  unfold jfam at h
  unfold jtags
  by_cases e : f = 0
  · rw [if_pos e] at h ⊢
    simp only [Bool.or_eq_true, beq_iff_eq] at h
    simp only [List.mem_cons, List.not_mem_nil, or_false]
    omega
  · rw [if_neg e] at h ⊢
    simp only [beq_iff_eq] at h
    simp [h]
def jchkT (own : String) (x : Nat) (ps : List Nat) (fin : Bool) (init : Bool) (t : Nat) : Bool := match vwCl[t]?, jword (ps.getD 2 0) with
  | some q, some w => (match w with
    | .fieldLink o y ref nm d => decide (o = own) && decide (y = x) && decide (nm = (q.2.1 (ps.getD 1 0)).2.1) && decide (d = (q.2.1 (ps.getD 1 0)).2.2.1) && goodWord w && decide (ps.getD 1 0 < q.2.2) && (decide (ref = (q.2.1 (ps.getD 1 0)).1) || jin (ps.getD 3 0) (.sameField ref (q.2.1 (ps.getD 1 0)).1 (q.2.1 (ps.getD 1 0)).2.1 (q.2.1 (ps.getD 1 0)).2.2.1)) && decide (jfty t (ps.getD 1 0) = jfty (ps.getD 0 0) (ps.getD 1 0)) && (!fin || (q.2.1 (ps.getD 1 0)).2.2.2 == false || (init && decide ((q.2.1 (ps.getD 1 0)).1 = own)))
    | _ => false)
  | _, _ => false
def jchkF (own : String) (x : Nat) (ps : List Nat) (fin init : Bool) : Bool := (jtags (ps.getD 0 0)).all (jchkT own x ps fin init)
def jchkL (k : Nat) (e : JE) : Bool := match e with
  | (pc, i, n, ps, z) => match i with
    | .iconst v => decide (-2147483648 ≤ v ∧ v < 2147483648) && n == 1
    | .bipush v => decide (-128 ≤ v ∧ v ≤ 127) && n == 2
    | .sipush v => decide (-32768 ≤ v ∧ v ≤ 32767) && n == 3
    | .ldc x => jin (ps.getD 0 0) (.constant (jY k).cls x (Int32.ofInt z)) && decide (-2147483648 ≤ z ∧ z < 2147483648) && n == 2
    | .ldc_w x => jin (ps.getD 0 0) (.constant (jY k).cls x (Int32.ofInt z)) && decide (-2147483648 ≤ z ∧ z < 2147483648) && n == 3
    | .ldc2_w x => jin (ps.getD 0 0) (.constantLong (jY k).cls x (Int64.ofInt z)) && decide (-9223372036854775808 ≤ z ∧ z < 9223372036854775808) && n == 3
    | .iload _ => n == 2
    | .lload _ => n == 2
    | .aload _ => n == 2
    | .istore _ => n == 2
    | .lstore _ => n == 2
    | .astore _ => n == 2
    | .iinc _ _ => n == 3
    | .ifCond _ off => decide ((pc : Int) + off = (jhd ps : Int)) && n == 3
    | .if_icmp _ off => decide ((pc : Int) + off = (jhd ps : Int)) && n == 3
    | .ifnull off => decide ((pc : Int) + off = (jhd ps : Int)) && n == 3
    | .ifnonnull off => decide ((pc : Int) + off = (jhd ps : Int)) && n == 3
    | .goto off => decide ((pc : Int) + off = (jhd ps : Int)) && n == 3
    | .tableswitch d lo hi offs => decide (ps.map (fun (t : Nat) => (t : Int)) = ((pc : Int) + d) :: offs.toList.map (fun o => (pc : Int) + o))
    | .getfield x => jchkF (jY k).cls x ps false false && n == 3
    | .putfield x => jchkF (jY k).cls x ps true (decide ((jY k).name = "<init>")) && n == 3
    | .baload => (jhd ps == 22 || jhd ps == 23) && n == 1
    | .aaload => (jhd ps == 24 || jhd ps == 25) && n == 1
    | .aastore => (decide (ps = [24, 4]) || decide (ps = [25, 0])) && n == 1
    | .new x => (match vwCl[jhd ps]? with
      | some q => jin (ps.getD 1 0) (.classLink (jY k).cls x q.1) && jin (ps.getD 2 0) (.instantiable q.1 q.2.2) && jin (ps.getD 3 0) (.initialized q.1) && n == 3
      | none => false)
    | .newarray a => decide (jat a < 24) && n == 2
    | .anewarray x => ((jhd ps == 24 && jin (ps.getD 1 0) (.classLink (jY k).cls x RX4)) || (jhd ps == 25 && jin (ps.getD 1 0) (.classLink (jY k).cls x RX0))) && n == 3
    | .instanceof x => (match vwCl[jhd ps]? with
      | some q => jin (ps.getD 1 0) (.classLink (jY k).cls x q.1) && decide (jhd ps ∈ [1, 2, 3, 6, 8]) && n == 3
      | none => false)
    | .ireturn => n == 1 && (if jhd ps = 1 then decide (jRt k = some .boolean) else decide (jRt k = some .int))
    | .lreturn => n == 1 && decide (jRt k = some .long)
    | .areturn => n == 1 && (match jRt k with
      | some (.object _) => true
      | _ => false)
    | .return_ => n == 1 && decide (jRt k = none)
    | .invokestatic x => n == 3 && (if jhd ps = 0 then jmOk (ps.getD 2 0) && decide (jNA (ps.getD 2 0) = ps.getD 1 0) && jin (ps.getD 3 0) (.methodLink (jY k).cls x (jY (ps.getD 2 0))) && jin (ps.getD 4 0) (.static (jY (ps.getD 2 0))) && jin (ps.getD 5 0) (.initialized (jY (ps.getD 2 0)).cls)
      else if jhd ps = 2 then jmOk (ps.getD 2 0) && decide (jNA (ps.getD 2 0) = ps.getD 1 0) && jinN (ps.getD 3 0) (.methodLinkNest (jY k).cls x (jY (ps.getD 2 0)) "SueOrSettle") && jin (ps.getD 4 0) (.static (jY (ps.getD 2 0))) && jin (ps.getD 5 0) (.initialized (jY (ps.getD 2 0)).cls)
      else if jhd ps = 7 then jin (ps.getD 1 0) (.methodLink (jY k).cls x arraycopyName) && jin (ps.getD 2 0) (.native arraycopyName) && jin (ps.getD 3 0) (.static arraycopyName) && jin (ps.getD 4 0) (.initialized "java/lang/System") else true)
    | .invokespecial x => n == 3 && (if jhd ps = 1 then jmOk (ps.getD 2 0) && decide (jNA (ps.getD 2 0) = ps.getD 1 0) && jin (ps.getD 3 0) (.methodLink (jY k).cls x (jY (ps.getD 2 0))) && jin (ps.getD 4 0) (.instanceMethod (jY (ps.getD 2 0))) && jin (ps.getD 5 0) (.initialized (jY (ps.getD 2 0)).cls) && decide ((jY (ps.getD 2 0)).name = "<init>") && decide (jRt (ps.getD 2 0) = none)
      else if jhd ps = 3 then jmOk (ps.getD 2 0) && decide (jNA (ps.getD 2 0) = ps.getD 1 0) && jinN (ps.getD 3 0) (.methodLinkNest (jY k).cls x (jY (ps.getD 2 0)) "SueOrSettle") && jin (ps.getD 4 0) (.instanceMethod (jY (ps.getD 2 0))) && jin (ps.getD 5 0) (.initialized (jY (ps.getD 2 0)).cls) && decide ((jY (ps.getD 2 0)).name = "<init>") && decide (jRt (ps.getD 2 0) = none)
      else if jhd ps = 6 then jin (ps.getD 1 0) (.methodLink (jY k).cls x Lib.objectInit) && jin (ps.getD 2 0) (.instanceMethod Lib.objectInit) && jin (ps.getD 3 0) (.code Lib.objectInit ⟨#[0xb1]⟩ 1 none) else true)
    | .invokevirtual x => n == 3 && (if jhd ps = 5 then jmOk (ps.getD 2 0) && decide (jNA (ps.getD 2 0) = ps.getD 1 0) && (match vwCl[ps.getD 3 0]? with
        | some q => decide ((jY (ps.getD 2 0)).cls = q.1)
        | none => false) && jin (ps.getD 4 0) (.methodLink (jY k).cls x (jY (ps.getD 2 0))) && jin (ps.getD 5 0) (.instanceMethod (jY (ps.getD 2 0))) && jin (ps.getD 6 0) (.selects (jY (ps.getD 2 0)).cls (jY (ps.getD 2 0)) (jY (ps.getD 2 0))) && jin (ps.getD 7 0) (.initialized (jY (ps.getD 2 0)).cls) else true)
    | _ => n == 1
def jchkN (k : Nat) : Bool := (jP k).all (jchkL k) && jwalk (jBy k) (jP k) (jBy k).data.toList && jadj (jP k) && (jpc (jP k) == 0)
def jchkM (k : Nat) : Bool := jchkN k && jmOk k
end
section
/-! what each of the simple machine's steps was -/
section Inv
variable {K : List JE} {L S : List AV} {h : JH} {cu su : Nat} {st : JS}
theorem jld_inv {t k : Nat} (e : jld K L S h cu su t k = some st) : ∃ v, L[k]? = some (t, v) ∧ st = (K, L, (t, v) :: S, h, cu, su) := by
  unfold jld at e
  cases hl : L[k]? with
  | none => rw [hl] at e; cases e
  | some v =>
    rw [hl] at e
    simp only at e
    split at e
    · rename_i hc
      obtain ⟨vt, vv⟩ := v
      simp only at hc
      subst hc
      cases e
      exact ⟨vv, rfl, rfl⟩
    · cases e
theorem jst_inv {t k : Nat} (e : jst K L S h cu su t k = some st) : ∃ v S', S = (t, v) :: S' ∧ k < L.length ∧ st = (K, jput L k (t, v), S', h, cu, su) := by
  unfold jst at e
  revert e
  match S with
  | [] => intro e; cases e
  | v :: S' =>
    intro e
    simp only at e
    split at e
    · rename_i hc
      obtain ⟨vt, vv⟩ := v
      obtain ⟨h1, h2⟩ := hc
      simp only at h1
      subst h1
      cases e
      exact ⟨vv, S', rfl, h2, rfl⟩
    · cases e
theorem jst2_inv {k : Nat} (e : jst2 K L S h cu su k = some st) : ∃ v S', S = (1, v) :: S' ∧ k + 1 < L.length ∧ st = (K, jput2 L k (1, v), S', h, cu, su) := by
  unfold jst2 at e
  revert e
  match S with
  | [] => intro e; cases e
  | v :: S' =>
    intro e
    simp only at e
    split at e
    · rename_i hc
      obtain ⟨vt, vv⟩ := v
      obtain ⟨h1, h2⟩ := hc
      simp only at h1
      subst h1
      cases e
      exact ⟨vv, S', rfl, h2, rfl⟩
    · cases e
theorem jinc_inv {k : Nat} {n : Int} (e : jinc K L S h cu su k n = some st) : ∃ v, L[k]? = some (0, v) ∧ st = (K, jput L k (0, w32 (v + n)), S, h, cu, su) := by
  unfold jinc at e
  cases hl : L[k]? with
  | none => rw [hl] at e; cases e
  | some v =>
    rw [hl] at e
    simp only at e
    split at e
    · rename_i hc
      obtain ⟨vt, vv⟩ := v
      simp only at hc
      subst hc
      cases e
      exact ⟨vv, rfl, rfl⟩
    · cases e
theorem jun_inv {t u : Nat} {f : Int → Int} (e : jun K L S h cu su t u f = some st) : ∃ x S', S = (t, x) :: S' ∧ st = (K, L, (u, f x) :: S', h, cu, su) := by
  unfold jun at e
  revert e
  match S with
  | [] => intro e; cases e
  | v :: S' =>
    intro e
    simp only at e
    split at e
    · rename_i hc
      obtain ⟨vt, vv⟩ := v
      simp only at hc
      subst hc
      cases e
      exact ⟨vv, S', rfl, rfl⟩
    · cases e
theorem jbin_inv {t t' u : Nat} {f : Int → Int → Int} (e : jbin K L S h cu su t t' u f = some st) : ∃ x y S', S = (t', y) :: (t, x) :: S' ∧ st = (K, L, (u, f x y) :: S', h, cu, su) := by
  unfold jbin at e
  revert e
  match S with
  | [] => intro e; cases e
  | [_] => intro e; cases e
  | w :: v :: S' =>
    intro e
    simp only at e
    split at e
    · rename_i hc
      obtain ⟨vt, vv⟩ := v
      obtain ⟨wt, wv⟩ := w
      obtain ⟨h1, h2⟩ := hc
      simp only at h1 h2
      subst h1
      subst h2
      cases e
      exact ⟨vv, wv, S', rfl, rfl⟩
    · cases e
theorem jdiv_inv {t : Nat} {f : Int → Int → Int} (e : jdiv K L S h cu su t f = some st) : ∃ x y S', S = (t, y) :: (t, x) :: S' ∧ y ≠ 0 ∧ st = (K, L, (t, f x y) :: S', h, cu, su) := by
  unfold jdiv at e
  revert e
  match S with
  | [] => intro e; cases e
  | [_] => intro e; cases e
  | w :: v :: S' =>
    intro e
    simp only at e
    split at e
    · rename_i hc
      obtain ⟨vt, vv⟩ := v
      obtain ⟨wt, wv⟩ := w
      obtain ⟨h1, h2, h3⟩ := hc
      simp only at h1 h2 h3
      subst h1
      subst h2
      cases e
      exact ⟨vv, wv, S', rfl, h3, rfl⟩
    · cases e
theorem jgo_inv {cd : List JE} {t : Nat} {S' : List AV} (e : jgo L h cu su cd t S' = some st) : ∃ K', jfind cd t = some K' ∧ st = (K', L, S', h, cu, su) := by
  unfold jgo at e
  cases hf : jfind cd t with
  | none => rw [hf] at e; cases e
  | some K' => rw [hf] at e; cases e; exact ⟨K', rfl, rfl⟩
theorem jif_inv {cd : List JE} {q : ClassFile.Cond} {t : Nat} (e : jif K L S h cu su cd q t = some st) : ∃ x S', S = (0, x) :: S' ∧ (jcnd q x 0 = true → jgo L h cu su cd t S' = some st) ∧ (jcnd q x 0 = false → st = (K, L, S', h, cu, su)) := by
  unfold jif at e
  revert e
  match S with
  | [] => intro e; cases e
  | v :: S' =>
    intro e
    simp only at e
    split at e
    · rename_i hc
      obtain ⟨vt, vv⟩ := v
      simp only at hc e
      subst hc
      refine ⟨vv, S', rfl, fun g => ?_, fun g => ?_⟩
      · rw [if_pos g] at e
        exact e
      · rw [if_neg (by rw [g]; decide)] at e
        cases e
        rfl
    · cases e
theorem jicmp_inv {cd : List JE} {q : ClassFile.Cond} {t : Nat} (e : jicmp K L S h cu su cd q t = some st) : ∃ x y S', S = (0, y) :: (0, x) :: S' ∧ (jcnd q x y = true → jgo L h cu su cd t S' = some st) ∧ (jcnd q x y = false → st = (K, L, S', h, cu, su)) := by
  unfold jicmp at e
  revert e
  match S with
  | [] => intro e; cases e
  | [_] => intro e; cases e
  | w :: v :: S' =>
    intro e
    simp only at e
    split at e
    · rename_i hc
      obtain ⟨vt, vv⟩ := v
      obtain ⟨wt, wv⟩ := w
      obtain ⟨h1, h2⟩ := hc
      simp only at h1 h2 e
      subst h1
      subst h2
      refine ⟨vv, wv, S', rfl, fun g => ?_, fun g => ?_⟩
      · rw [if_pos g] at e
        exact e
      · rw [if_neg (by rw [g]; decide)] at e
        cases e
        rfl
    · cases e
theorem jnul_inv {cd : List JE} {isn : Bool} {t : Nat} (e : jnul K L S h cu su cd isn t = some st) : ∃ x S', S = (2, x) :: S' ∧ (decide (x = -1) = isn → jgo L h cu su cd t S' = some st) ∧ (¬ decide (x = -1) = isn → st = (K, L, S', h, cu, su)) := by
  unfold jnul at e
  revert e
  match S with
  | [] => intro e; cases e
  | v :: S' =>
    intro e
    simp only at e
    split at e
    · rename_i hc
      obtain ⟨vt, vv⟩ := v
      simp only at hc e
      subst hc
      refine ⟨vv, S', rfl, fun g => ?_, fun g => ?_⟩
      · rw [if_pos g] at e
        exact e
      · rw [if_neg g] at e
        cases e
        rfl
    · cases e
theorem jsw_inv {cd : List JE} {lo hi : Int} {ts : List Nat} (e : jsw L S h cu su cd lo hi ts = some st) : ∃ x S' t, S = (0, x) :: S' ∧ ts[if x < lo ∨ hi < x then 0 else (x - lo).toNat + 1]? = some t ∧ jgo L h cu su cd t S' = some st := by
  unfold jsw at e
  revert e
  match S with
  | [] => intro e; cases e
  | v :: S' =>
    intro e
    simp only at e
    split at e
    · rename_i hc
      obtain ⟨vt, vv⟩ := v
      simp only at hc e
      subst hc
      split at e
      · rename_i t ht
        exact ⟨vv, S', t, rfl, ht, e⟩
      · cases e
    · cases e
theorem jgetf_inv {f k : Nat} (e : jgetf K L S h cu su f k = some st) : ∃ r S', S = (2, r) :: S' ∧ 0 ≤ r ∧ r.toNat < h.1 ∧ jfam f (h.2.1 r.toNat).1 = true ∧ st = (K, L, (jsk (jfty f k), h.2.2 r.toNat k) :: S', h, cu, su) := by
  unfold jgetf at e
  revert e
  match S with
  | [] => intro e; cases e
  | v :: S' =>
    intro e
    simp only at e
    split at e
    · rename_i hc
      obtain ⟨vt, vv⟩ := v
      obtain ⟨h1, h2, h3, h4⟩ := hc
      simp only at h1 h2 h3 h4 e
      subst h1
      cases e
      exact ⟨vv, S', rfl, h2, h3, h4, rfl⟩
    · cases e
theorem jputf_inv {f k : Nat} (e : jputf K L S h cu su f k = some st) : ∃ v r S', S = (jsk (jfty f k), v) :: (2, r) :: S' ∧ 0 ≤ r ∧ r.toNat < h.1 ∧ jfam f (h.2.1 r.toNat).1 = true ∧ (jfty f k = 3 → v = 0 ∨ v = 1) ∧ (jsk (jfty f k) = 2 → v ≠ -2) ∧ st = (K, L, S', jwr h r.toNat k v, cu, su) := by
  unfold jputf at e
  revert e
  match S with
  | [] => intro e; cases e
  | [_] => intro e; cases e
  | w :: v :: S' =>
    intro e
    simp only at e
    split at e
    · rename_i hc
      obtain ⟨vt, vv⟩ := v
      obtain ⟨wt, wv⟩ := w
      obtain ⟨h1, h2, h3, h4, h5, h6, h7⟩ := hc
      simp only at h1 h2 h3 h4 h5 h6 h7 e
      subst h1
      subst h5
      cases e
      exact ⟨wv, vv, S', rfl, h2, h3, h4, h6, h7, rfl⟩
    · cases e
theorem jald_inv {xl : Option Nat} {xs : Nat → Int} {t : Nat} (e : jald K L S h cu su xl xs t = some st) : ∃ i r S', S = (0, i) :: (2, r) :: S' ∧ ((r = -2 ∧ t = 20 ∧ 0 ≤ i ∧ jxin xl i.toNat = true ∧ st = (K, L, (0, xs i.toNat) :: S', h, cu, su)) ∨ (0 ≤ r ∧ r.toNat < h.1 ∧ (h.2.1 r.toNat).1 = t ∧ 0 ≤ i ∧ i.toNat < (h.2.1 r.toNat).2 ∧ st = (K, L, (jak t, h.2.2 r.toNat i.toNat) :: S', h, cu, su))) := by
  unfold jald at e
  revert e
  match S with
  | [] => intro e; cases e
  | [_] => intro e; cases e
  | w :: v :: S' =>
    intro e
    simp only at e
    split at e
    · rename_i hc
      obtain ⟨vt, vv⟩ := v
      obtain ⟨wt, wv⟩ := w
      obtain ⟨h1, h2⟩ := hc
      simp only at h1 h2 e
      subst h1
      subst h2
      refine ⟨wv, vv, S', rfl, ?_⟩
      split at e
      · rename_i h3
        split at e
        · rename_i h4
          cases e
          exact Or.inl ⟨h3, h4.1, h4.2.1, h4.2.2, rfl⟩
        · cases e
      · split at e
        · rename_i h4
          cases e
          exact Or.inr ⟨h4.1, h4.2.1, h4.2.2.1, h4.2.2.2.1, h4.2.2.2.2, rfl⟩
        · cases e
    · cases e
theorem jast_inv {t : Nat} {f : Int → Int} (e : jast K L S h cu su t f = some st) : ∃ v i r S', S = (jak t, v) :: (0, i) :: (2, r) :: S' ∧ 0 ≤ r ∧ r.toNat < h.1 ∧ (h.2.1 r.toNat).1 = t ∧ 0 ≤ i ∧ i.toNat < (h.2.1 r.toNat).2 ∧ st = (K, L, S', jwr h r.toNat i.toNat (f v), cu, su) := by
  unfold jast at e
  revert e
  match S with
  | [] => intro e; cases e
  | [_] => intro e; cases e
  | [_, _] => intro e; cases e
  | u :: w :: v :: S' =>
    intro e
    simp only at e
    split at e
    · rename_i hc
      obtain ⟨vt, vv⟩ := v
      obtain ⟨wt, wv⟩ := w
      obtain ⟨ut, uv⟩ := u
      obtain ⟨h1, h2, h3, h4, h5, h6, h7, h8⟩ := hc
      simp only at h1 h2 h3 h4 h5 h6 h7 h8 e
      subst h1
      subst h2
      subst h3
      cases e
      exact ⟨uv, wv, vv, S', rfl, h4, h5, h6, h7, h8, rfl⟩
    · cases e
theorem jasto_inv {t f : Nat} (e : jasto K L S h cu su t f = some st) : ∃ v i r S', S = (2, v) :: (0, i) :: (2, r) :: S' ∧ 0 ≤ r ∧ r.toNat < h.1 ∧ (h.2.1 r.toNat).1 = t ∧ 0 ≤ i ∧ i.toNat < (h.2.1 r.toNat).2 ∧ 0 ≤ v ∧ v.toNat < h.1 ∧ jfam f (h.2.1 v.toNat).1 = true ∧ st = (K, L, S', jwr h r.toNat i.toNat v, cu, su) := by
  unfold jasto at e
  revert e
  match S with
  | [] => intro e; cases e
  | [_] => intro e; cases e
  | [_, _] => intro e; cases e
  | u :: w :: v :: S' =>
    intro e
    simp only at e
    split at e
    · rename_i hc
      obtain ⟨vt, vv⟩ := v
      obtain ⟨wt, wv⟩ := w
      obtain ⟨ut, uv⟩ := u
      obtain ⟨h1, h2, h3, h4, h5, h6, h7, h8, h9, h10, h11⟩ := hc
      simp only at h1 h2 h3 h4 h5 h6 h7 h8 h9 h10 h11 e
      subst h1
      subst h2
      subst h3
      cases e
      exact ⟨uv, wv, vv, S', rfl, h4, h5, h6, h7, h8, h9, h10, h11, rfl⟩
    · cases e
theorem jaln_inv {xl : Option Nat} (e : jaln K L S h cu su xl = some st) : ∃ r S', S = (2, r) :: S' ∧ ((∃ m, r = -2 ∧ xl = some m ∧ st = (K, L, (0, (m : Int)) :: S', h, cu, su)) ∨ (0 ≤ r ∧ r.toNat < h.1 ∧ 20 ≤ (h.2.1 r.toNat).1 ∧ (h.2.1 r.toNat).2 < 2147483648 ∧ st = (K, L, (0, ((h.2.1 r.toNat).2 : Int)) :: S', h, cu, su))) := by
  unfold jaln at e
  revert e
  match S with
  | [] => intro e; cases e
  | v :: S' =>
    intro e
    simp only at e
    split at e
    · rename_i hc
      obtain ⟨vt, vv⟩ := v
      simp only at hc e
      subst hc
      refine ⟨vv, S', rfl, ?_⟩
      split at e
      · rename_i h3
        cases hxl : xl with
        | none => rw [hxl] at e; cases e
        | some m =>
          rw [hxl] at e
          cases e
          exact Or.inl ⟨m, h3, rfl, rfl⟩
      · split at e
        · rename_i h4
          cases e
          exact Or.inr ⟨h4.1, h4.2.1, h4.2.2.1, h4.2.2.2.2, rfl⟩
        · cases e
    · cases e
theorem jnewa_inv {t : Nat} (e : jnewa K L S h cu su t = some st) : ∃ n S', S = (0, n) :: S' ∧ 0 ≤ n ∧ n < 60000 ∧ st = (K, L, (2, (h.1 : Int)) :: S', jnew h t n.toNat, cu + 1, su + n.toNat) := by
  unfold jnewa at e
  revert e
  match S with
  | [] => intro e; cases e
  | v :: S' =>
    intro e
    simp only at e
    split at e
    · rename_i hc
      obtain ⟨vt, vv⟩ := v
      obtain ⟨h1, h2, h3⟩ := hc
      simp only at h1 h2 h3 e
      subst h1
      cases e
      exact ⟨vv, S', rfl, h2, h3, rfl⟩
    · cases e
theorem jinst_inv {u : Nat} (e : jinst K L S h cu su u = some st) : ∃ r S', S = (2, r) :: S' ∧ 0 ≤ r ∧ r.toNat < h.1 ∧ jfam 0 (h.2.1 r.toNat).1 = true ∧ st = (K, L, (0, if jund (h.2.1 r.toNat).1 u = true then 1 else 0) :: S', h, cu, su) := by
  unfold jinst at e
  revert e
  match S with
  | [] => intro e; cases e
  | v :: S' =>
    intro e
    simp only at e
    split at e
    · rename_i hc
      obtain ⟨vt, vv⟩ := v
      obtain ⟨h1, h2, h3, h4⟩ := hc
      simp only at h1 h2 h3 h4 e
      subst h1
      cases e
      exact ⟨vv, S', rfl, h2, h3, h4, rfl⟩
    · cases e
theorem jpop_inv {t : Nat} (e : jpop K L S h cu su t = some st) : ∃ v S', S = v :: S' ∧ jsk v.1 = t ∧ st = (K, L, S', h, cu, su) := by
  unfold jpop at e
  revert e
  match S with
  | [] => intro e; cases e
  | v :: S' =>
    intro e
    simp only at e
    split at e
    · rename_i hc
      cases e
      exact ⟨v, S', rfl, hc, rfl⟩
    · cases e
theorem jdup_inv (e : jdup K L S h cu su = some st) : ∃ v S', S = v :: S' ∧ ¬ v.1 = 1 ∧ st = (K, L, v :: v :: S', h, cu, su) := by
  unfold jdup at e
  revert e
  match S with
  | [] => intro e; cases e
  | v :: S' =>
    intro e
    simp only at e
    split at e
    · rename_i hc
      cases e
      exact ⟨v, S', rfl, by omega, rfl⟩
    · cases e
theorem jdup2_inv (e : jdup2 K L S h cu su = some st) : (∃ w S', S = w :: S' ∧ w.1 = 1 ∧ st = (K, L, w :: w :: S', h, cu, su)) ∨ ∃ w v S', S = w :: v :: S' ∧ ¬ v.1 = 1 ∧ ¬ w.1 = 1 ∧ st = (K, L, w :: v :: w :: v :: S', h, cu, su) := by
  unfold jdup2 at e
  revert e
  match S with
  | [] => intro e; cases e
  | w :: S' =>
    intro e
    simp only at e
    split at e
    · rename_i hc
      cases e
      exact Or.inl ⟨w, S', rfl, hc, rfl⟩
    · revert e
      match S' with
      | [] => intro e; cases e
      | v :: S'' =>
        intro e
        simp only at e
        split at e
        · rename_i hc
          cases e
          exact Or.inr ⟨w, v, S'', rfl, by omega, by omega, rfl⟩
        · cases e
theorem jobji_inv (e : jobji K L S h cu su = some st) : ∃ r S', S = (2, r) :: S' ∧ 0 ≤ r ∧ jwid S' ≤ 8 ∧ st = (K, L, S', h, cu, su) := by
  unfold jobji at e
  revert e
  match S with
  | [] => intro e; cases e
  | v :: S' =>
    intro e
    simp only at e
    split at e
    · rename_i hc
      obtain ⟨vt, vv⟩ := v
      obtain ⟨h1, h2, h3⟩ := hc
      simp only at h1 h2 e
      subst h1
      cases e
      exact ⟨vv, S', rfl, h2, h3, rfl⟩
    · cases e
theorem jcopy_inv (e : jcopy K L S h cu su = some st) : ∃ n dp d sp a S', S = (0, n) :: (0, dp) :: (2, d) :: (0, sp) :: (2, a) :: S' ∧ 0 ≤ n ∧ 0 ≤ dp ∧ 0 ≤ sp ∧ 0 ≤ a ∧ a.toNat < h.1 ∧ 0 ≤ d ∧ d.toNat < h.1 ∧ (h.2.1 a.toNat).1 = (h.2.1 d.toNat).1 ∧ ((h.2.1 a.toNat).1 = 20 ∨ (h.2.1 a.toNat).1 = 21) ∧
    sp.toNat + n.toNat ≤ (h.2.1 a.toNat).2 ∧ dp.toNat + n.toNat ≤ (h.2.1 d.toNat).2 ∧ jwid S' ≤ 8 ∧ st = (K, L, S', jcpy h a.toNat sp.toNat d.toNat dp.toNat n.toNat, cu, su) := by
  unfold jcopy at e
  revert e
  match S with
  | [] => intro e; cases e
  | [_] => intro e; cases e
  | [_, _] => intro e; cases e
  | [_, _, _] => intro e; cases e
  | [_, _, _, _] => intro e; cases e
  | n :: dp :: d :: sp :: a :: S' =>
    intro e
    simp only at e
    split at e
    · rename_i hc
      obtain ⟨nt, nv⟩ := n
      obtain ⟨dpt, dpv⟩ := dp
      obtain ⟨dt, dv⟩ := d
      obtain ⟨spt, spv⟩ := sp
      obtain ⟨at', av⟩ := a
      obtain ⟨h1, h2, h3, h4, h5, h6, h7, h8, h9, h10, h11, h12, h13, h14, h15, h16, h17⟩ := hc
      simp only at h1 h2 h3 h4 h5 h6 h7 h8 h9 h10 h11 h12 h13 h14 h15 h16 e
      subst h1
      subst h2
      subst h3
      subst h4
      subst h5
      cases e
      exact ⟨nv, dpv, dv, spv, av, S', rfl, h6, h7, h8, h9, h10, h11, h12, h13, h14, h15, h16, h17, rfl⟩
    · cases e
theorem jfind_suf {cd K' : List JE} {t : Nat} (e : jfind cd t = some K') : (∃ pre, cd = pre ++ K') ∧ K' ≠ [] ∧ jpc K' = t := by
  induction cd with
  | nil => cases e
  | cons x r ih =>
    unfold jfind at e
    split at e
    · rename_i hc
      cases e
      exact ⟨⟨[], rfl⟩, by simp, hc⟩
    · obtain ⟨⟨pre, hp⟩, h2, h3⟩ := ih e
      exact ⟨⟨x :: pre, by rw [hp]; rfl⟩, h2, h3⟩
end Inv
end
section
/-! what is made, bodies in arrays, the machine's own members, calls -/
theorem jdv {B b t k : Nat} (ht : t < 13) (hk : k < jN t) : defaultValue (jTy t k) = jV B b t (jdef t) k := by
  have h := jTy_kind t ht k hk
  unfold jV jfkd jdef
  rw [if_pos (by omega), if_pos (by omega)]
  cases hty : jTy t k <;> rw [hty] at h <;> simp only [jtk, beq_iff_eq] at h <;> first | (rw [h]; rfl) | exact absurd h (by decide)
section JN
variable {p : Program} {l : Launch} {e : Env} {R : Room} {s : State} {m : MethodId} {args : Array Value} {below : List Frame} {meth : Method} {c : Code} {Q : State → Prop} {D : va_G} {cA : Nat → ClassId} {B b : Nat} {xl : Option Nat} {xs : Nat → Int} {cc : ByteArray} {own : String}
theorem jHp.new {H H1 : Heap} {h : JH} {t n : Nat} (hH : jHp D cA B b H h) (hz : H1.size = B + h.1 + 1) (ho : ∀ q : Nat, q < B + h.1 → H1[q]? = H[q]?) (hc : jcell D cA B b H1 h.1 t n (jdef t)) : jHp D cA B b H1 (jnew h t n) := by
  refine ⟨by rw [hz]; rfl, fun k hk => ?_⟩
  have hk' : k < h.1 + 1 := hk
  by_cases e : k = h.1
  · subst e
    have e1 : (jnew h t n).2.1 h.1 = (t, n) := by simp [jnew]
    have e2 : (jnew h t n).2.2 h.1 = jdef t := by funext j; simp [jnew]
    rw [e1, e2]
    exact hc
  · have e1 : (jnew h t n).2.1 k = h.2.1 k := by simp [jnew, e]
    have e2 : (jnew h t n).2.2 k = h.2.2 k := by funext j; simp [jnew, e]
    rw [e1, e2]
    exact (hH.2 k (by omega)).kept (ho _ (by omega))
theorem jS_new {H H1 : Heap} {h : JH} {locs : List Loc} (hS : va_S (fun q => B ≤ q) s.heap H locs) (hH : jHp D cA B b H h) (hz : H1.size = B + h.1 + 1) (ho : ∀ q : Nat, q < B + h.1 → H1[q]? = H[q]?) : va_S (fun q => B ≤ q) s.heap H1 locs := by
  refine ⟨Nat.le_trans hS.1 (by rw [hz, hH.1]; omega), fun q h1 h2 => ?_, hS.2.2⟩
  rw [ho q (by have := hH.1; have := hS.1; omega)]
  exact hS.2.1 q h1 h2
theorem jdef_ok {t k : Nat} (ht : t < 13 ∨ (20 ≤ t ∧ t ≤ 25)) : jcok t k (jdef t k) := by
  rcases ht with ht | ht
  · unfold jcok jfkd jdef
    rw [if_pos (by omega), if_pos (by omega)]
    have hf : jfty t k = 0 ∨ jfty t k = 1 ∨ jfty t k = 2 ∨ jfty t k = 3 := by
      unfold jfty
      cases vwCl[t]? with
      | none => simp
      | some q =>
        simp only
        unfold jfk
        by_cases e1 : (q.2.1 k).2.2.1 = "I"
        · rw [if_pos e1]; omega
        · rw [if_neg e1]
          by_cases e2 : (q.2.1 k).2.2.1 = "J"
          · rw [if_pos e2]; omega
          · rw [if_neg e2]
            by_cases e3 : (q.2.1 k).2.2.1 = "Z"
            · rw [if_pos e3]; omega
            · rw [if_neg e3]; omega
    rcases hf with e | e | e | e <;> rw [e] <;> refine ⟨?_, ?_, ?_, ?_, ?_⟩ <;> simp [jok, jsk] <;> omega
  · have : t = 20 ∨ t = 21 ∨ t = 22 ∨ t = 23 ∨ t = 24 ∨ t = 25 := by omega
    rcases this with e | e | e | e | e | e <;> subst e <;> refine ⟨?_, ?_, ?_, ?_, ?_⟩ <;> simp [jok, jfkd, jak, jdef]
theorem jx_newo (hx : p.tables.exec = Jvm.exec) (hb : c.code = cc) (ho : s.vm.findClass own = some m.cls) (hts : ∀ w ∈ jTB, w.before args s = true) (hK : jK D cA s) {pc : Nat} {L S : List AV} {h : JH} {cu su t x : Nat} {q : vw_C} (hq : vwCl[t]? = some q) (h1 : (Cond.classLink own x q.1).before args s = true) (h2 : (Cond.instantiable q.1 q.2.2).before args s = true) (h3 : (Cond.initialized q.1).before args s = true) (hcu : cu + 1 ≤ R.cells) (hsu : su + jN t ≤ R.slots) (hd : decode cc pc = .ok (.new x, 3))
    (kk : jXW p l e R s m args below meth c Q D cA B b (pc + 3) L ((2, (h.1 : Int)) :: S) (jnew h t (jN t)) (cu + 1) (su + jN t)) : jXW p l e R s m args below meth c Q D cA B b pc L S h cu su := by
  intro H locs ls hH hS hL hs
  have hKn := hK.1 t q hq
  have hN := jcl_N hq
  have ht := jcl_lt hq
  rw [hN] at hsu kk
  refine W.newcK hx hb ho h1 h2 h3 rfl hd hcu hsu hKn.2.1 (h := B + h.1) hH.1 fun H1 kC hkC e1 z1 o1 => ?_
  have hk := kk H1 locs ls (hH.new z1 o1 ⟨fun j _ => jdef_ok (Or.inl ht), Or.inl ⟨ht, hN.symm, (u_born (jTy t) hts (jlays t q hq) hKn hkC e1 (jTy_ok t q hq)).to (fun j hj => jdv ht (by rw [hN]; exact hj))⟩⟩) (jS_new hS hH z1 o1) hL (jmc (jok_a.mpr (by omega)) hs)
  rw [List.map_cons, jv_r B b (by omega)] at hk
  exact hk
theorem jx_newa (hx : p.tables.exec = Jvm.exec) (hb : c.code = cc) (hts : ∀ w ∈ jTB, w.before args s = true) (hK : jK D cA s) {pc : Nat} {L S : List AV} {h : JH} {cu su : Nat} {a : ArrayType} {n : Int} (ha : jat a < 24) (h0 : 0 ≤ n) (h1 : n < 60000) (hcu : cu + 1 ≤ R.cells) (hsu : su + n.toNat ≤ R.slots) (hd : decode cc pc = .ok (.newarray a, 2))
    (kk : jXW p l e R s m args below meth c Q D cA B b (pc + 2) L ((2, (h.1 : Int)) :: S) (jnew h (jat a) n.toNat) (cu + 1) (su + n.toNat)) : jXW p l e R s m args below meth c Q D cA B b pc L ((0, n) :: S) h cu su := by
  intro H locs ls hH hS hL hs
  obtain ⟨g1, g3⟩ := jms1 hs
  have hty : newarray.typeOf a = jty (jat a) ∧ 20 ≤ jat a ∧ componentBytes (newarray.typeOf a) ≤ 8 ∧ (∀ j, defaultValue (newarray.typeOf a) = jV B b (jat a) (jdef (jat a)) j) ∧ ∀ cX : ClassId, va_RA s cX (jty (jat a)) → s.vm.findClass ("[" ++ (newarray.typeOf a).toString) = some cX := by
    cases a <;> simp [jat] at ha <;> exact ⟨rfl, by decide, by decide, fun _ => rfl, fun _ h => h⟩
  obtain ⟨ty1, ty2, ty3, ty4, ty5⟩ := hty
  have hw := hts _ (jarrW a ha)
  rw [List.map_cons, jv_i]
  refine va_newaK hx hb hw rfl hd rfl (by rw [j32_0, j32_lt ⟨by omega, by omega⟩ ⟨by omega, by omega⟩]; omega) (j32_clamp h0 (by omega)) (by have := Nat.mul_le_mul_left n.toNat ty3; omega) hcu hsu (h := B + h.1) hH.1 fun H1 cX e1 z1 o1 hAr hNm => ?_
  have hcX : cX = cA (jat a) := Option.some.inj (hNm.symm.trans (ty5 _ (hK.2.1 _ ty2 (by omega)).2))
  subst hcX
  have hk := kk H1 locs ls (hH.new z1 o1 ⟨fun j _ => jdef_ok (Or.inr ⟨ty2, by omega⟩), Or.inr ⟨ty2, by omega, by rw [e1]; congr 2; funext j; exact ty4 j⟩⟩) (jS_new hS hH z1 o1) hL (jmc (jok_a.mpr (by omega)) g3)
  rw [List.map_cons, jv_r B b (by omega)] at hk
  exact hk
theorem jx_anew (hx : p.tables.exec = Jvm.exec) (hb : c.code = cc) (ho : s.vm.findClass own = some m.cls) (hK : jK D cA s) {pc t x : Nat} {C : String} {L S : List AV} {h : JH} {cu su : Nat} {n : Int} (ht : t = 24 ∨ t = 25) (hC : jty t = .object C) (hcl : (Cond.classLink own x C).before args s = true) (hov : va_AO C s) (h0 : 0 ≤ n) (h1 : n < 60000) (hcu : cu + 1 ≤ R.cells) (hsu : su + n.toNat ≤ R.slots) (hd : decode cc pc = .ok (.anewarray x, 3))
    (kk : jXW p l e R s m args below meth c Q D cA B b (pc + 3) L ((2, (h.1 : Int)) :: S) (jnew h t n.toNat) (cu + 1) (su + n.toNat)) : jXW p l e R s m args below meth c Q D cA B b pc L ((0, n) :: S) h cu su := by
  intro H locs ls hH hS hL hs
  obtain ⟨g1, g3⟩ := jms1 hs
  have hcl' : (Int32.ofInt n).toNatClampNeg = n.toNat := j32_clamp h0 (by omega)
  rw [List.map_cons, jv_i]
  refine W.anew hx hb ho hcl (va_AO.use hov) rfl hd rfl (by rw [j32_0, j32_lt ⟨by omega, by omega⟩ ⟨by omega, by omega⟩]; omega) (by rw [hcl']; omega) hcu (by rw [hcl']; exact hsu) fun cX kX comp f1 f2 f3 f4 => ?_
  rw [hcl']
  have hcX : cX = cA t := by
    have := (hK.2.1 t (by omega) (by omega)).2
    rw [hC] at this
    obtain ⟨_, _, _, _, _, q4⟩ := this
    exact Option.some.inj (f1.symm.trans q4)
  subst hcX
  generalize hH1 : H.push ({ cls := cA t, slots := Array.replicate n.toNat .null, vm := .none } : Cell) = H1
  have hsz := hH.1
  have z1 : H1.size = B + h.1 + 1 := by rw [← hH1, Array.size_push, hsz]
  have e1 : H1[B + h.1]? = some (arrV (cA t) n.toNat (fun _ => .null)) := by rw [← hH1, ← hsz, Array.getElem?_push_size, ← arrV_new]
  have o1 : ∀ q : Nat, q < B + h.1 → H1[q]? = H[q]? := fun q hq => by rw [← hH1, Array.getElem?_push, if_neg (by omega)]
  have hk := kk H1 locs ls (hH.new z1 o1 ⟨fun j _ => jdef_ok (Or.inr ⟨by omega, by omega⟩), Or.inr ⟨by omega, by omega, by rw [e1]; congr 2; funext j; rcases ht with e | e <;> subst e <;> rfl⟩⟩) (jS_new hS hH z1 o1) hL (jmc (jok_a.mpr (by omega)) g3)
  rw [List.map_cons, jv_r B b (by omega)] at hk
  show W p l e R s m args below meth c H1 locs (cu + 1) (su + n.toNat) Q (F0 m (pc + 3) ls (.ref H.size :: S.map (jv B b)))
  rw [hsz]
  exact hk
/-- the cell of a body -/
theorem jbody {H : Heap} {h : JH} {a t : Nat} (hH : jHp D cA B b H h) (ha : a < h.1) (ht : (h.2.1 a).1 = t) (h13 : t < 13) : ∃ cell : Cell, H[B + a]? = some cell ∧ cell.cls = D.1 t ∧ cell.vm = .none := by
  obtain ⟨-, hc2⟩ := hH.2 _ ha
  rw [ht] at hc2
  rcases hc2 with ⟨-, -, cell, q1, q2, q3, -⟩ | ⟨z, -⟩
  · exact ⟨cell, q1, q2, q3⟩
  · omega
theorem jfam_lt {f t : Nat} (hf : f < 13) (h : jfam f t = true) : t < 13 := by
  have := jfam_in h
  unfold jtags at this
  split at this
  · simp only [List.mem_cons, List.not_mem_nil, or_false] at this
    omega
  · simp only [List.mem_singleton] at this
    omega
theorem jx_asto (hx : p.tables.exec = Jvm.exec) (hb : c.code = cc) (hK : jK D cA s) {pc t f : Nat} {L S : List AV} {h : JH} {cu su : Nat} {r i v : Int} (htf : (t = 24 ∧ f = 4) ∨ (t = 25 ∧ f = 0)) (h0 : 0 ≤ r) (hlt : r.toNat < h.1) (ht : (h.2.1 r.toNat).1 = t) (hi0 : 0 ≤ i) (hi : i.toNat < (h.2.1 r.toNat).2) (hv0 : 0 ≤ v) (hv : v.toNat < h.1) (hfa : jfam f (h.2.1 v.toNat).1 = true) (hd : decode cc pc = .ok (.aastore, 1))
    (kk : jXW p l e R s m args below meth c Q D cA B b (pc + 1) L S (jwr h r.toNat i.toNat v) cu su) : jXW p l e R s m args below meth c Q D cA B b pc L ((2, v) :: (0, i) :: (2, r) :: S) h cu su := by
  intro H locs ls hH hS hL hs
  obtain ⟨g1, hs⟩ := jms1 hs
  obtain ⟨g4, g2, g3⟩ := jms2 hs
  have gi := jok_i.mp g4
  have t20 : 20 ≤ t ∧ t ≤ 25 := by omega
  obtain ⟨-, ha, hc⟩ := jarr hH hlt ht t20.1
  have hvt : (h.2.1 v.toNat).1 < 13 := jfam_lt (by omega) hfa
  obtain ⟨cell, q1, q2, q3⟩ := jbody hH hv rfl hvt
  obtain ⟨qv, hqv⟩ := jcl_some hvt
  have hcls := (hK.1 _ qv hqv).2
  obtain ⟨kC, hkC, -⟩ := hcls.2
  have hkd : ∀ j, jfkd t j = 2 := by intro j; rcases htf with ⟨e, -⟩ | ⟨e, -⟩ <;> subst e <;> rfl
  have key : ∃ (kA : Class) (comp : ClassId) (C : String) (kE : Class), s.vm.classes[cA t]? = some kA ∧ kA.kind = .array comp (.object C) ∧ s.vm.classes[comp]? = some kE ∧ s.vm.assignable (D.1 (h.2.1 v.toNat).1) comp = true := by
    have hra := (hK.2.1 t t20.1 t20.2).2
    rcases htf with ⟨e, e2⟩ | ⟨e, e2⟩
    · subst e
      subst e2
      obtain ⟨kA, comp, k1, k2, k3, -⟩ := (hra : va_RA s (cA 24) (.object RX4))
      have e4 : (h.2.1 v.toNat).1 = 4 := by have := jfam_in hfa; simpa [jtags] using this
      rw [e4] at hqv hcls hkC ⊢
      cases hqv
      have hcomp : comp = D.1 4 := Option.some.inj (k3.symm.trans hcls.1)
      subst hcomp
      exact ⟨kA, _, _, kC, k1, k2, hkC, va_assign hcls⟩
    · subst e
      subst e2
      obtain ⟨kA, comp, k1, k2, k3, -⟩ := (hra : va_RA s (cA 25) (.object RX0))
      obtain ⟨kE, hkE, -⟩ := Vm.findClass_spec k3
      refine ⟨kA, comp, _, kE, k1, k2, hkE, ?_⟩
      by_cases e0 : (h.2.1 v.toNat).1 = 0
      · rw [e0] at hqv hcls ⊢
        cases hqv
        have hcomp : comp = D.1 0 := Option.some.inj (k3.symm.trans hcls.1)
        subst hcomp
        exact va_assign hcls
      · exact vb_asgC (hK.2.2.1 _ (jcast _ _ hqv hfa e0)) _ _ k3 hcls.1
  obtain ⟨kA, comp, C, kE, k1, k2, k3, k4⟩ := key
  rw [List.map_cons, List.map_cons, List.map_cons, jv_r B b h0, jv_i, jv_r B b hv0]
  refine W.aast hx hb ha (fun q h => by cases h) (fun h => by cases h) k1 k2 rfl k3 ⟨by rw [j32_0, j32_lt gi ⟨by omega, by omega⟩]; omega, by rw [arrV_size, j32_clamp hi0 gi.2]; exact hi⟩ q1 (fun q h => by rw [q3] at h; cases h) (by rw [q2]; exact hkC) (by rw [q2]; exact k4) rfl rfl hd fun H1 e z oq => ?_
  rw [j32_clamp hi0 gi.2] at e ⊢
  refine kk H1 _ ls (hH.wr z oq ?_) (jS_put hS z oq) hL g3
  rw [ht]
  refine ⟨jcok_set hc ⟨by rw [hkd]; exact jok_a.mpr (by omega), fun q => by omega, fun q => by omega, fun q => by omega, fun q => by omega⟩, Or.inr ⟨t20.1, t20.2, ?_⟩⟩
  rw [e, jarr_upd (x := v)]
  rw [hkd, jv_r B b hv0]
theorem jcat_sum (S : List AV) (h : ∀ v ∈ S, jok v) : ((S.map (jv B b)).map fun v => v.category).sum = jwid S := by
  induction S with
  | nil => rfl
  | cons v r ih =>
    obtain ⟨g1, g2⟩ := jms1 h
    have := ih g2
    simp only [jwid, List.map_cons, List.sum_cons] at this ⊢
    rw [jv_cat B b g1, this]
theorem jx_obji (hx : p.tables.exec = Jvm.exec) (hb : c.code = cc) (ho : s.vm.findClass own = some m.cls) {pc x : Nat} {L S : List AV} {h : JH} {cu su : Nat} {r : Int} (hml : c.maxLocals = L.length) (h1 : (Cond.methodLink own x Lib.objectInit).before args s = true) (h2 : (Cond.instanceMethod Lib.objectInit).before args s = true) (h3 : (Cond.code Lib.objectInit ⟨#[0xb1]⟩ 1 none).before args s = true) (hf : 1 ≤ R.frames) (hl : 60 ≤ R.locals) (h0 : 0 ≤ r) (hw : jwid S ≤ 8) (hd : decode cc pc = .ok (.invokespecial x, 3))
    (kk : jXW p l e R s m args below meth c Q D cA B b (pc + 3) L S h cu su) : jXW p l e R s m args below meth c Q D cA B b pc L ((2, r) :: S) h cu su := by
  intro H locs ls hH hS hL hs
  obtain ⟨g1, g3⟩ := jms1 hs
  rw [List.map_cons, jv_r B b h0]
  refine W.objInit hx hb ho h1 h2 h3 rfl (by show ls.size = _; rw [hml]; exact hL.1) rfl hd hf ?_ (kk H locs ls hH hS hL g3)
  have := jcat_sum (B := B) (b := b) S g3
  show 2 * 0 + _ + 12 ≤ _
  rw [this]
  omega
theorem jnn {z : Int32} (hz : ¬ z < 0) : z.toInt = (z.toNatClampNeg : Int) := by
  have hz0 : (0 : Int) ≤ z.toInt := by
    have := Int32.not_lt.mp hz
    simpa using Int32.le_iff_toInt_le.mp this
  show z.toInt = ((z.toInt.toNat : Nat) : Int)
  omega
end JN
end
section
/-! every step of the simple machine is one of the real machine -/
def jCx (p : Program) (R : Room) (s : State) (m : MethodId) (args : Array Value) (meth : Method) (c : Code) (D : va_G) (cA : Nat → ClassId) (B b : Nat) (xl : Option Nat) (xs : Nat → Int) (k : Nat) : Prop :=
  p.tables.exec = Jvm.exec ∧ c.code = jBy k ∧ c.maxLocals = jML k ∧ s.vm.findClass (jY k).cls = some m.cls ∧ (∀ w ∈ jTB, w.before args s = true) ∧ jKp D cA B b xl xs s s.heap ∧ B ≤ s.heap.size ∧ ((jY k).name = "<init>" → meth.name = "<init>") ∧ 1 ≤ R.frames ∧ 60 ≤ R.locals
/-- a piece of a method's code that goes to its end -/
def jSuf (k : Nat) (K : List JE) : Prop := ∃ pre, jP k = pre ++ K
/-- the simple machine's state, as the real one has it -/
def jX (p : Program) (l : Launch) (e : Env) (R : Room) (s : State) (m : MethodId) (args : Array Value) (below : List Frame) (meth : Method) (c : Code) (Q : State → Prop) (D : va_G) (cA : Nat → ClassId) (B b : Nat) (k : Nat) (st : JS) : Prop := st.1 ≠ [] ∧ (jSuf k st.1 → st.2.1.length = jML k → jXW p l e R s m args below meth c Q D cA B b (jpc st.1) st.2.1 st.2.2.1 st.2.2.2.1 st.2.2.2.2.1 st.2.2.2.2.2)
theorem jadj_at {cd pre K : List JE} {a : JE} (h : jadj cd = true) (hc : cd = pre ++ a :: K) (hK : K ≠ []) : jpc K = a.1 + a.2.2.1 := by
  subst hc
  induction pre with
  | nil =>
    match K, hK with
    | x :: r, _ =>
      simp only [List.nil_append, jadj, Bool.and_eq_true, beq_iff_eq] at h
      exact h.1
  | cons x r ih =>
    refine ih ?_
    simp only [List.cons_append, jadj, Bool.and_eq_true] at h
    exact h.2
theorem jchkM_at {k : Nat} {K : List JE} {a : JE} (h : jchkN k = true) (hs : jSuf k (a :: K)) : decode (jBy k) a.1 = .ok (a.2.1, a.2.2.1) ∧ jchkL k a = true ∧ jSuf k K ∧ (K ≠ [] → jpc K = a.1 + a.2.2.1) := by
  obtain ⟨pre, hp⟩ := hs
  simp only [jchkN, Bool.and_eq_true, beq_iff_eq] at h
  obtain ⟨⟨⟨h1, h0⟩, h2⟩, h4⟩ := h
  have hm : a ∈ jP k := by rw [hp]; simp
  have ha := List.all_eq_true.mp h1 a hm
  exact ⟨jwalk_ok _ _ h0 (by rw [h4]; rfl) h2 a hm, ha, ⟨pre ++ [a], by rw [hp]; simp⟩, fun hK => jadj_at h2 hp hK⟩
section JSound
variable {p : Program} {l : Launch} {e : Env} {R : Room} {s : State} {m : MethodId} {args : Array Value} {below : List Frame} {meth : Method} {c : Code} {Q : State → Prop} {D : va_G} {cA : Nat → ClassId} {B b : Nat} {xl : Option Nat} {xs : Nat → Int}
/-- the field that an instruction names, of a body of any kind that may stand there -/
theorem jfield {own : String} {x t : Nat} {ps : List Nat} {fin init : Bool} (hts : ∀ w ∈ jTB, w.before args s = true) (h : jchkF own x ps fin init = true) (ht : jfam (ps.getD 0 0) t = true) : ∃ (q : vw_C) (ref : String), vwCl[t]? = some q ∧ ps.getD 1 0 < q.2.2 ∧ (Cond.fieldLink own x ref (q.2.1 (ps.getD 1 0)).2.1 (q.2.1 (ps.getD 1 0)).2.2.1).before args s = true ∧ (ref = (q.2.1 (ps.getD 1 0)).1 ∨ (Cond.sameField ref (q.2.1 (ps.getD 1 0)).1 (q.2.1 (ps.getD 1 0)).2.1 (q.2.1 (ps.getD 1 0)).2.2.1).before args s = true) ∧ jfty t (ps.getD 1 0) = jfty (ps.getD 0 0) (ps.getD 1 0) ∧ (fin = true → (q.2.1 (ps.getD 1 0)).2.2.2 = false ∨ (init = true ∧ (q.2.1 (ps.getD 1 0)).1 = own)) := by
  have h1 := List.all_eq_true.mp h t (jfam_in ht)
  unfold jchkT at h1
  cases hq : vwCl[t]? with
  | none => rw [hq] at h1; cases h1
  | some q =>
    cases hw : jword (ps.getD 2 0) with
    | none => rw [hq, hw] at h1; cases h1
    | some w =>
      rw [hq, hw] at h1
      simp only at h1
      split at h1
      · rename_i o y ref nm d
        simp only [Bool.and_eq_true, decide_eq_true_eq, Bool.or_eq_true] at h1
        obtain ⟨⟨⟨⟨⟨⟨⟨⟨e1, e2⟩, e3⟩, e4⟩, e5⟩, e6⟩, e7⟩, e8⟩, e9⟩ := h1
        subst e1
        subst e2
        subst e3
        subst e4
        refine ⟨q, ref, rfl, e6, hts _ (List.mem_filter.mpr ⟨jword_mem hw, e5⟩), ?_, e8, fun hf => ?_⟩
        · rcases e7 with e7 | e7
          · exact Or.inl e7
          · exact Or.inr (hts _ (jin_mem e7))
        · subst hf
          simp only [Bool.not_true, Bool.false_eq_true, false_or, beq_iff_eq] at e9
          exact e9
      · cases h1
theorem jkd {t k : Nat} (h : t < 13) : jfkd t k = jsk (jfty t k) := by
  unfold jfkd
  rw [if_pos (by omega)]

set_option maxHeartbeats 4000000 in
theorem jstep_ok {k : Nat} (C : jCx p R s m args meth c D cA B b xl xs k) (hM : jchkN k = true) {st st' : JS} (hst : jstep xl xs (jP k) st = some st') (hlim : jlim R.cells R.slots st st') (hX : jX p l e R s m args below meth c Q D cA B b k st') : jX p l e R s m args below meth c Q D cA B b k st := by
  obtain ⟨hx, hb, hml, ho, hts, hKp, hB, hnm, hfr, hlo⟩ := C
  have hK := hKp.1
  obtain ⟨K0, L, S, h, cu, su⟩ := st
  match K0, hst with
  | [], hst => cases hst
  | (pc, i, n, ps, z) :: K, hst =>
    refine ⟨by simp, fun hsf hlen => ?_⟩
    obtain ⟨hd, hc, hsK, hpK⟩ := jchkM_at hM hsf
    have hlen' : L.length = jML k := hlen
    simp only at hd hpK
    have nx : ∀ {L' S' : List AV} {h' : JH} {cu' su' : Nat}, jX p l e R s m args below meth c Q D cA B b k (K, L', S', h', cu', su') → L'.length = jML k → jXW p l e R s m args below meth c Q D cA B b (pc + n) L' S' h' cu' su' := by
      intro L' S' h' cu' su' hX' hl
      have := hX'.2 hsK hl
      simp only at this
      rw [hpK hX'.1] at this
      exact this
    have go : ∀ {t : Nat} {S' : List AV}, jgo L h cu su (jP k) t S' = some st' → jXW p l e R s m args below meth c Q D cA B b t L S' h cu su := by
      intro t S' hg
      obtain ⟨K', hf, rfl⟩ := jgo_inv hg
      obtain ⟨h1, h2, h3⟩ := jfind_suf hf
      have := hX.2 h1 hlen'
      simp only at this
      rw [h3] at this
      exact this
    show jXW p l e R s m args below meth c Q D cA B b pc L S h cu su
    simp only [jstep] at hst
    simp only [jchkL] at hc
    cases i
    case iconst v =>
      simp only [Bool.and_eq_true, decide_eq_true_eq, beq_iff_eq] at hc
      obtain ⟨hv, hn⟩ := hc
      subst hn
      cases hst
      exact jx_iconst hx hb hv hd (nx hX hlen')
    case bipush v =>
      simp only [Bool.and_eq_true, decide_eq_true_eq, beq_iff_eq] at hc
      obtain ⟨hv, hn⟩ := hc
      subst hn
      cases hst
      exact jx_bipush hx hb hv hd (nx hX hlen')
    case sipush v =>
      simp only [Bool.and_eq_true, decide_eq_true_eq, beq_iff_eq] at hc
      obtain ⟨hv, hn⟩ := hc
      subst hn
      cases hst
      exact jx_sipush hx hb hv hd (nx hX hlen')
    case ldc x =>
      simp only [Bool.and_eq_true, decide_eq_true_eq, beq_iff_eq] at hc
      obtain ⟨⟨hw, hv⟩, hn⟩ := hc
      subst hn
      cases hst
      exact jx_ldc hx hb ho (hts _ (jin_mem hw)) hv hd (nx hX hlen')
    case ldc_w x =>
      simp only [Bool.and_eq_true, decide_eq_true_eq, beq_iff_eq] at hc
      obtain ⟨⟨hw, hv⟩, hn⟩ := hc
      subst hn
      cases hst
      exact jx_ldcw hx hb ho (hts _ (jin_mem hw)) hv hd (nx hX hlen')
    case ldc2_w x =>
      simp only [Bool.and_eq_true, decide_eq_true_eq, beq_iff_eq] at hc
      obtain ⟨⟨hw, hv⟩, hn⟩ := hc
      subst hn
      cases hst
      exact jx_ldc2 hx hb ho (hts _ (jin_mem hw)) hv hd (nx hX hlen')
    case lconst v =>
      have hn : n = 1 := by simpa using hc
      subst hn
      cases hst
      exact jx_lconst hx hb hd (nx hX hlen')
    case aconst_null =>
      have hn : n = 1 := by simpa using hc
      subst hn
      cases hst
      exact jx_null hx hb hd (nx hX hlen')
    case iload j =>
      have hn : n = 2 := by simpa using hc
      subst hn
      obtain ⟨v, hv, rfl⟩ := jld_inv hst
      exact jx_iload hx hb hv hd (nx hX hlen')
    case iload_n j =>
      have hn : n = 1 := by simpa using hc
      subst hn
      obtain ⟨v, hv, rfl⟩ := jld_inv hst
      exact jx_iload_n hx hb hv hd (nx hX hlen')
    case lload j =>
      have hn : n = 2 := by simpa using hc
      subst hn
      obtain ⟨v, hv, rfl⟩ := jld_inv hst
      exact jx_lload hx hb hv hd (nx hX hlen')
    case lload_n j =>
      have hn : n = 1 := by simpa using hc
      subst hn
      obtain ⟨v, hv, rfl⟩ := jld_inv hst
      exact jx_lload_n hx hb hv hd (nx hX hlen')
    case aload j =>
      have hn : n = 2 := by simpa using hc
      subst hn
      obtain ⟨v, hv, rfl⟩ := jld_inv hst
      exact jx_aload hx hb hv hd (nx hX hlen')
    case aload_n j =>
      have hn : n = 1 := by simpa using hc
      subst hn
      obtain ⟨v, hv, rfl⟩ := jld_inv hst
      exact jx_aload_n hx hb hv hd (nx hX hlen')
    case istore j =>
      have hn : n = 2 := by simpa using hc
      subst hn
      obtain ⟨v, S', rfl, hj, rfl⟩ := jst_inv hst
      exact jx_istore hx hb hj hd (nx hX (by rw [jput_len]; exact hlen'))
    case istore_n j =>
      have hn : n = 1 := by simpa using hc
      subst hn
      obtain ⟨v, S', rfl, hj, rfl⟩ := jst_inv hst
      exact jx_istore_n hx hb hj hd (nx hX (by rw [jput_len]; exact hlen'))
    case astore j =>
      have hn : n = 2 := by simpa using hc
      subst hn
      obtain ⟨v, S', rfl, hj, rfl⟩ := jst_inv hst
      exact jx_astore hx hb hj hd (nx hX (by rw [jput_len]; exact hlen'))
    case astore_n j =>
      have hn : n = 1 := by simpa using hc
      subst hn
      obtain ⟨v, S', rfl, hj, rfl⟩ := jst_inv hst
      exact jx_astore_n hx hb hj hd (nx hX (by rw [jput_len]; exact hlen'))
    case lstore j =>
      have hn : n = 2 := by simpa using hc
      subst hn
      obtain ⟨v, S', rfl, hj, rfl⟩ := jst2_inv hst
      exact jx_lstore hx hb hj hd (nx hX (by rw [jput2_len]; exact hlen'))
    case lstore_n j =>
      have hn : n = 1 := by simpa using hc
      subst hn
      obtain ⟨v, S', rfl, hj, rfl⟩ := jst2_inv hst
      exact jx_lstore_n hx hb hj hd (nx hX (by rw [jput2_len]; exact hlen'))
    case iinc j v =>
      have hn : n = 3 := by simpa using hc
      subst hn
      obtain ⟨w, hw, rfl⟩ := jinc_inv hst
      exact jx_iinc hx hb hw hd (nx hX (by rw [jput_len]; exact hlen'))
    case pop =>
      have hn : n = 1 := by simpa using hc
      subst hn
      obtain ⟨v, S', rfl, hv, rfl⟩ := jpop_inv hst
      exact jx_pop hx hb (fun q => by rw [q] at hv; simp [jsk] at hv) hd (nx hX hlen')
    case pop2 =>
      have hn : n = 1 := by simpa using hc
      subst hn
      obtain ⟨v, S', rfl, hv, rfl⟩ := jpop_inv hst
      exact jx_pop2 hx hb (by unfold jsk at hv; split at hv <;> omega) hd (nx hX hlen')
    case dup =>
      have hn : n = 1 := by simpa using hc
      subst hn
      obtain ⟨v, S', rfl, hv, rfl⟩ := jdup_inv hst
      exact jx_dup hx hb hv hd (nx hX hlen')
    case dup2 =>
      have hn : n = 1 := by simpa using hc
      subst hn
      rcases jdup2_inv hst with ⟨w, S', rfl, hw, rfl⟩ | ⟨w, v, S', rfl, hv, hw, rfl⟩
      · exact jx_dup2l hx hb hw hd (nx hX hlen')
      · exact jx_dup2 hx hb hv hw hd (nx hX hlen')
    case iadd =>
      have hn : n = 1 := by simpa using hc
      subst hn
      obtain ⟨x, y, S', rfl, rfl⟩ := jbin_inv hst
      exact jx_iadd hx hb hd (nx hX hlen')
    case isub =>
      have hn : n = 1 := by simpa using hc
      subst hn
      obtain ⟨x, y, S', rfl, rfl⟩ := jbin_inv hst
      exact jx_isub hx hb hd (nx hX hlen')
    case imul =>
      have hn : n = 1 := by simpa using hc
      subst hn
      obtain ⟨x, y, S', rfl, rfl⟩ := jbin_inv hst
      exact jx_imul hx hb hd (nx hX hlen')
    case iand =>
      have hn : n = 1 := by simpa using hc
      subst hn
      obtain ⟨x, y, S', rfl, rfl⟩ := jbin_inv hst
      exact jx_iand hx hb hd (nx hX hlen')
    case ior =>
      have hn : n = 1 := by simpa using hc
      subst hn
      obtain ⟨x, y, S', rfl, rfl⟩ := jbin_inv hst
      exact jx_ior hx hb hd (nx hX hlen')
    case ixor =>
      have hn : n = 1 := by simpa using hc
      subst hn
      obtain ⟨x, y, S', rfl, rfl⟩ := jbin_inv hst
      exact jx_ixor hx hb hd (nx hX hlen')
    case ishl =>
      have hn : n = 1 := by simpa using hc
      subst hn
      obtain ⟨x, y, S', rfl, rfl⟩ := jbin_inv hst
      exact jx_ishl hx hb hd (nx hX hlen')
    case ishr =>
      have hn : n = 1 := by simpa using hc
      subst hn
      obtain ⟨x, y, S', rfl, rfl⟩ := jbin_inv hst
      exact jx_ishr hx hb hd (nx hX hlen')
    case iushr =>
      have hn : n = 1 := by simpa using hc
      subst hn
      obtain ⟨x, y, S', rfl, rfl⟩ := jbin_inv hst
      exact jx_iushr hx hb hd (nx hX hlen')
    case ladd =>
      have hn : n = 1 := by simpa using hc
      subst hn
      obtain ⟨x, y, S', rfl, rfl⟩ := jbin_inv hst
      exact jx_ladd hx hb hd (nx hX hlen')
    case lsub =>
      have hn : n = 1 := by simpa using hc
      subst hn
      obtain ⟨x, y, S', rfl, rfl⟩ := jbin_inv hst
      exact jx_lsub hx hb hd (nx hX hlen')
    case lmul =>
      have hn : n = 1 := by simpa using hc
      subst hn
      obtain ⟨x, y, S', rfl, rfl⟩ := jbin_inv hst
      exact jx_lmul hx hb hd (nx hX hlen')
    case land =>
      have hn : n = 1 := by simpa using hc
      subst hn
      obtain ⟨x, y, S', rfl, rfl⟩ := jbin_inv hst
      exact jx_land hx hb hd (nx hX hlen')
    case lor =>
      have hn : n = 1 := by simpa using hc
      subst hn
      obtain ⟨x, y, S', rfl, rfl⟩ := jbin_inv hst
      exact jx_lor hx hb hd (nx hX hlen')
    case lxor =>
      have hn : n = 1 := by simpa using hc
      subst hn
      obtain ⟨x, y, S', rfl, rfl⟩ := jbin_inv hst
      exact jx_lxor hx hb hd (nx hX hlen')
    case lshl =>
      have hn : n = 1 := by simpa using hc
      subst hn
      obtain ⟨x, y, S', rfl, rfl⟩ := jbin_inv hst
      exact jx_lshl hx hb hd (nx hX hlen')
    case lushr =>
      have hn : n = 1 := by simpa using hc
      subst hn
      obtain ⟨x, y, S', rfl, rfl⟩ := jbin_inv hst
      exact jx_lushr hx hb hd (nx hX hlen')
    case lcmp =>
      have hn : n = 1 := by simpa using hc
      subst hn
      obtain ⟨x, y, S', rfl, rfl⟩ := jbin_inv hst
      exact jx_lcmp hx hb hd (nx hX hlen')
    case idiv =>
      have hn : n = 1 := by simpa using hc
      subst hn
      obtain ⟨x, y, S', rfl, hy, rfl⟩ := jdiv_inv hst
      exact jx_idiv hx hb hy hd (nx hX hlen')
    case irem =>
      have hn : n = 1 := by simpa using hc
      subst hn
      obtain ⟨x, y, S', rfl, hy, rfl⟩ := jdiv_inv hst
      exact jx_irem hx hb hy hd (nx hX hlen')
    case ldiv =>
      have hn : n = 1 := by simpa using hc
      subst hn
      obtain ⟨x, y, S', rfl, hy, rfl⟩ := jdiv_inv hst
      exact jx_ldiv hx hb hy hd (nx hX hlen')
    case lrem =>
      have hn : n = 1 := by simpa using hc
      subst hn
      obtain ⟨x, y, S', rfl, hy, rfl⟩ := jdiv_inv hst
      exact jx_lrem hx hb hy hd (nx hX hlen')
    case ineg =>
      have hn : n = 1 := by simpa using hc
      subst hn
      obtain ⟨x, S', rfl, rfl⟩ := jun_inv hst
      exact jx_ineg hx hb hd (nx hX hlen')
    case lneg =>
      have hn : n = 1 := by simpa using hc
      subst hn
      obtain ⟨x, S', rfl, rfl⟩ := jun_inv hst
      exact jx_lneg hx hb hd (nx hX hlen')
    case i2l =>
      have hn : n = 1 := by simpa using hc
      subst hn
      obtain ⟨x, S', rfl, rfl⟩ := jun_inv hst
      exact jx_i2l hx hb hd (nx hX hlen')
    case l2i =>
      have hn : n = 1 := by simpa using hc
      subst hn
      obtain ⟨x, S', rfl, rfl⟩ := jun_inv hst
      exact jx_l2i hx hb hd (nx hX hlen')
    case i2b =>
      have hn : n = 1 := by simpa using hc
      subst hn
      obtain ⟨x, S', rfl, rfl⟩ := jun_inv hst
      exact jx_i2b hx hb hd (nx hX hlen')
    case i2s =>
      have hn : n = 1 := by simpa using hc
      subst hn
      obtain ⟨x, S', rfl, rfl⟩ := jun_inv hst
      exact jx_i2s hx hb hd (nx hX hlen')
    case ifCond q off =>
      simp only [Bool.and_eq_true, decide_eq_true_eq, beq_iff_eq] at hc
      obtain ⟨ht, hn⟩ := hc
      subst hn
      obtain ⟨x, S', rfl, g1, g2⟩ := jif_inv hst
      cases q
      · exact jx_if_eq hx hb hd ht (fun z => go (g1 (by simpa [jcnd] using z))) (fun z => by have := g2 (by simpa [jcnd] using z); subst this; exact nx hX hlen')
      · exact jx_if_ne hx hb hd ht (fun z => go (g1 (by simpa [jcnd] using z))) (fun z => by have := g2 (by simpa [jcnd] using z); subst this; exact nx hX hlen')
      · exact jx_if_lt hx hb hd ht (fun z => go (g1 (by simpa [jcnd] using z))) (fun z => by have := g2 (by simpa [jcnd] using z); subst this; exact nx hX hlen')
      · exact jx_if_ge hx hb hd ht (fun z => go (g1 (by simpa [jcnd] using z))) (fun z => by have := g2 (by simpa [jcnd] using z); subst this; exact nx hX hlen')
      · exact jx_if_gt hx hb hd ht (fun z => go (g1 (by simpa [jcnd] using z))) (fun z => by have := g2 (by simpa [jcnd] using z); subst this; exact nx hX hlen')
      · exact jx_if_le hx hb hd ht (fun z => go (g1 (by simpa [jcnd] using z))) (fun z => by have := g2 (by simpa [jcnd] using z); subst this; exact nx hX hlen')
    case if_icmp q off =>
      simp only [Bool.and_eq_true, decide_eq_true_eq, beq_iff_eq] at hc
      obtain ⟨ht, hn⟩ := hc
      subst hn
      obtain ⟨x, y, S', rfl, g1, g2⟩ := jicmp_inv hst
      cases q
      · exact jx_icmp_eq hx hb hd ht (fun z => go (g1 (by simpa [jcnd] using z))) (fun z => by have := g2 (by simpa [jcnd] using z); subst this; exact nx hX hlen')
      · exact jx_icmp_ne hx hb hd ht (fun z => go (g1 (by simpa [jcnd] using z))) (fun z => by have := g2 (by simpa [jcnd] using z); subst this; exact nx hX hlen')
      · exact jx_icmp_lt hx hb hd ht (fun z => go (g1 (by simpa [jcnd] using z))) (fun z => by have := g2 (by simpa [jcnd] using z); subst this; exact nx hX hlen')
      · exact jx_icmp_ge hx hb hd ht (fun z => go (g1 (by simpa [jcnd] using z))) (fun z => by have := g2 (by simpa [jcnd] using z); subst this; exact nx hX hlen')
      · exact jx_icmp_gt hx hb hd ht (fun z => go (g1 (by simpa [jcnd] using z))) (fun z => by have := g2 (by simpa [jcnd] using z); subst this; exact nx hX hlen')
      · exact jx_icmp_le hx hb hd ht (fun z => go (g1 (by simpa [jcnd] using z))) (fun z => by have := g2 (by simpa [jcnd] using z); subst this; exact nx hX hlen')
    case ifnull off =>
      simp only [Bool.and_eq_true, decide_eq_true_eq, beq_iff_eq] at hc
      obtain ⟨ht, hn⟩ := hc
      subst hn
      obtain ⟨x, S', rfl, g1, g2⟩ := jnul_inv hst
      exact jx_ifnull hx hb hd ht (fun z => go (g1 (by simpa using z))) (fun z => by have := g2 (by simpa using z); subst this; exact nx hX hlen')
    case ifnonnull off =>
      simp only [Bool.and_eq_true, decide_eq_true_eq, beq_iff_eq] at hc
      obtain ⟨ht, hn⟩ := hc
      subst hn
      obtain ⟨x, S', rfl, g1, g2⟩ := jnul_inv hst
      exact jx_ifnonnull hx hb hd ht (fun z => go (g1 (by simpa using z))) (fun z => by have := g2 (by simpa using z); subst this; exact nx hX hlen')
    case goto off =>
      simp only [Bool.and_eq_true, decide_eq_true_eq, beq_iff_eq] at hc
      obtain ⟨ht, hn⟩ := hc
      exact jx_goto hx hb (by rw [hn] at hd; exact hd) ht (go hst)
    case tableswitch dflt lo hi offs =>
      simp only [decide_eq_true_eq] at hc
      obtain ⟨x, S', t, rfl, ht, hg⟩ := jsw_inv hst
      by_cases hin : x < lo ∨ hi < x
      · rw [if_pos hin] at ht
        have h2 : (ps.map (fun (t : Nat) => (t : Int)))[0]? = some (t : Int) := by rw [List.getElem?_map, ht]; rfl
        rw [hc] at h2
        simp only [List.getElem?_cons_zero, Option.some.injEq] at h2
        exact jx_tabOut hx hb hd hin h2 (go hg)
      · rw [if_neg hin] at ht
        have h2 : (ps.map (fun (t : Nat) => (t : Int)))[(x - lo).toNat + 1]? = some (t : Int) := by rw [List.getElem?_map, ht]; rfl
        rw [hc] at h2
        rw [List.getElem?_cons_succ, List.getElem?_map, Array.getElem?_toList] at h2
        cases ho2 : offs[(x - lo).toNat]? with
        | none => rw [ho2] at h2; cases h2
        | some off =>
          rw [ho2] at h2
          simp only [Option.map_some, Option.some.injEq] at h2
          exact jx_tabIn hx hb hd (fun q => hin (Or.inl q)) (fun q => hin (Or.inr q)) ho2 h2 (go hg)
    case getfield x =>
      simp only [Bool.and_eq_true, beq_iff_eq] at hc
      obtain ⟨hf, hn⟩ := hc
      subst hn
      obtain ⟨r, S', rfl, h0, hlt, hfa, rfl⟩ := jgetf_inv hst
      obtain ⟨q, ref, hq, hk, hl, hsm, hty, -⟩ := jfield hts hf hfa
      have hk' := nx hX hlen'
      rw [← hty, ← jkd (jcl_lt hq)] at hk'
      exact jx_getf hx hb ho hts hK h0 hlt hq hk hl hsm hd hk'
    case putfield x =>
      simp only [Bool.and_eq_true, beq_iff_eq] at hc
      obtain ⟨hf, hn⟩ := hc
      subst hn
      obtain ⟨v, r, S', rfl, h0, hlt, hfa, hz, hv2, rfl⟩ := jputf_inv hst
      obtain ⟨q, ref, hq, hk, hl, hsm, hty, hfi⟩ := jfield hts hf hfa
      have hk' := nx hX hlen'
      rw [← hty] at hz hv2 ⊢
      rw [← jkd (jcl_lt hq)] at hv2 ⊢
      refine jx_putf hx hb ho hts hK h0 hlt hq hk hl hsm ?_ hz hv2 hd hk'
      rcases hfi rfl with g | g
      · exact Or.inl g
      · exact Or.inr ⟨hnm (by simpa using g.1), g.2⟩
    case iaload =>
      have hn : n = 1 := by simpa using hc
      subst hn
      obtain ⟨j, r, S', rfl, hh⟩ := jald_inv hst
      rcases hh with ⟨e1, -, h1, h2, rfl⟩ | ⟨h1, h2, h3, h4, h5, rfl⟩
      · subst e1
        exact jx_sald hx hb hKp hB h1 h2 hd (nx hX hlen')
      · exact jx_iald hx hb hK h1 h2 h3 h4 h5 hd (nx hX hlen')
    case laload =>
      have hn : n = 1 := by simpa using hc
      subst hn
      obtain ⟨j, r, S', rfl, hh⟩ := jald_inv hst
      rcases hh with ⟨e1, e2, h1, h2, rfl⟩ | ⟨h1, h2, h3, h4, h5, rfl⟩
      · cases e2
      · exact jx_lald hx hb hK h1 h2 h3 h4 h5 hd (nx hX hlen')
    case baload =>
      simp only [Bool.and_eq_true, Bool.or_eq_true, beq_iff_eq] at hc
      obtain ⟨ht, hn⟩ := hc
      subst hn
      obtain ⟨j, r, S', rfl, hh⟩ := jald_inv hst
      rcases ht with ht | ht
      · rw [ht] at hh
        rcases hh with ⟨e1, e2, h1, h2, rfl⟩ | ⟨h1, h2, h3, h4, h5, rfl⟩
        · cases e2
        · exact jx_bald hx hb hK h1 h2 h3 h4 h5 hd (nx hX hlen')
      · rw [ht] at hh
        rcases hh with ⟨e1, e2, h1, h2, rfl⟩ | ⟨h1, h2, h3, h4, h5, rfl⟩
        · cases e2
        · exact jx_zald hx hb hK h1 h2 h3 h4 h5 hd (nx hX hlen')
    case aaload =>
      simp only [Bool.and_eq_true, Bool.or_eq_true, beq_iff_eq] at hc
      obtain ⟨ht, hn⟩ := hc
      subst hn
      obtain ⟨j, r, S', rfl, hh⟩ := jald_inv hst
      rcases ht with ht | ht
      · rw [ht] at hh
        rcases hh with ⟨e1, e2, h1, h2, rfl⟩ | ⟨h1, h2, h3, h4, h5, rfl⟩
        · cases e2
        · exact jx_aald hx hb hK h1 h2 h3 (by omega) h4 h5 hd (nx hX hlen')
      · rw [ht] at hh
        rcases hh with ⟨e1, e2, h1, h2, rfl⟩ | ⟨h1, h2, h3, h4, h5, rfl⟩
        · cases e2
        · exact jx_aald hx hb hK h1 h2 h3 (by omega) h4 h5 hd (nx hX hlen')
    case iastore =>
      have hn : n = 1 := by simpa using hc
      subst hn
      obtain ⟨v, j, r, S', rfl, h1, h2, h3, h4, h5, rfl⟩ := jast_inv hst
      exact jx_iast hx hb hK h1 h2 h3 h4 h5 hd (nx hX hlen')
    case lastore =>
      have hn : n = 1 := by simpa using hc
      subst hn
      obtain ⟨v, j, r, S', rfl, h1, h2, h3, h4, h5, rfl⟩ := jast_inv hst
      exact jx_last hx hb hK h1 h2 h3 h4 h5 hd (nx hX hlen')
    case bastore =>
      dsimp only at hst hc
      have hn : n = 1 := by simpa using hc
      subst hn
      split at hst
      · obtain ⟨v, j, r, S', rfl, h1, h2, h3, h4, h5, rfl⟩ := jast_inv hst
        exact jx_bast hx hb hK h1 h2 h3 h4 h5 hd (nx hX hlen')
      · split at hst
        · obtain ⟨v, j, r, S', rfl, h1, h2, h3, h4, h5, rfl⟩ := jast_inv hst
          exact jx_zast hx hb hK h1 h2 h3 h4 h5 hd (nx hX hlen')
        · cases hst
    case aastore =>
      simp only [Bool.and_eq_true, Bool.or_eq_true, decide_eq_true_eq, beq_iff_eq] at hc
      obtain ⟨ht, hn⟩ := hc
      subst hn
      obtain ⟨v, j, r, S', rfl, h1, h2, h3, h4, h5, h6, h7, h8, rfl⟩ := jasto_inv hst
      rcases ht with ht | ht
      · subst ht
        exact jx_asto hx hb hK (Or.inl ⟨rfl, rfl⟩) h1 h2 h3 h4 h5 h6 h7 h8 hd (nx hX hlen')
      · subst ht
        exact jx_asto hx hb hK (Or.inr ⟨rfl, rfl⟩) h1 h2 h3 h4 h5 h6 h7 h8 hd (nx hX hlen')
    case arraylength =>
      have hn : n = 1 := by simpa using hc
      subst hn
      obtain ⟨r, S', rfl, hh⟩ := jaln_inv hst
      rcases hh with ⟨m', e1, e2, rfl⟩ | ⟨h1, h2, h3, h4, rfl⟩
      · subst e1
        exact jx_saln hx hb hKp hB e2 hd (nx hX hlen')
      · exact jx_aln hx hb hK h1 h2 h3 h4 hd (nx hX hlen')
    case new x =>
      dsimp only at hst hc
      split at hc
      · rename_i q hq
        simp only [Bool.and_eq_true, beq_iff_eq] at hc
        obtain ⟨⟨⟨c1, c2⟩, c3⟩, hn⟩ := hc
        subst hn
        cases hst
        have hlim2 : cu + 1 ≤ R.cells ∧ su + jN (jhd ps) ≤ R.slots := by
          rcases hlim with hlim | hlim
          · have := hlim.1; simp only at this; omega
          · exact hlim
        obtain ⟨hcu, hsu⟩ := hlim2
        exact jx_newo hx hb ho hts hK hq (hts _ (jin_mem c1)) (hts _ (jin_mem c2)) (hts _ (jin_mem c3)) hcu hsu hd (nx hX hlen')
      · cases hc
    case newarray a =>
      simp only [Bool.and_eq_true, decide_eq_true_eq, beq_iff_eq] at hc
      obtain ⟨ha, hn⟩ := hc
      subst hn
      obtain ⟨v, S', rfl, h1, h2, rfl⟩ := jnewa_inv hst
      have hlim2 : cu + 1 ≤ R.cells ∧ su + v.toNat ≤ R.slots := by
        rcases hlim with hlim | hlim
        · have := hlim.1; simp only at this; omega
        · exact hlim
      obtain ⟨hcu, hsu⟩ := hlim2
      exact jx_newa hx hb hts hK ha h1 h2 hcu hsu hd (nx hX hlen')
    case anewarray x =>
      simp only [Bool.and_eq_true, Bool.or_eq_true, beq_iff_eq] at hc
      obtain ⟨ht, hn⟩ := hc
      subst hn
      obtain ⟨v, S', rfl, h1, h2, rfl⟩ := jnewa_inv hst
      have hlim2 : cu + 1 ≤ R.cells ∧ su + v.toNat ≤ R.slots := by
        rcases hlim with hlim | hlim
        · have := hlim.1; simp only at this; omega
        · exact hlim
      obtain ⟨hcu, hsu⟩ := hlim2
      rcases ht with ⟨t1, t2⟩ | ⟨t1, t2⟩
      · rw [t1] at hX
        exact jx_anew hx hb ho hK (Or.inl rfl) rfl (hts _ (jin_mem t2)) hK.2.2.2.1.1 h1 h2 hcu hsu hd (nx hX hlen')
      · rw [t1] at hX
        exact jx_anew hx hb ho hK (Or.inr rfl) rfl (hts _ (jin_mem t2)) hK.2.2.2.1.2 h1 h2 hcu hsu hd (nx hX hlen')
    case invokespecial x =>
      dsimp only at hst hc
      split at hst
      · rename_i h6
        simp only [Bool.and_eq_true, beq_iff_eq] at hc
        obtain ⟨hn, hc⟩ := hc
        subst hn
        rw [if_neg (by omega), if_neg (by omega), if_pos h6] at hc
        simp only [Bool.and_eq_true] at hc
        obtain ⟨⟨c1, c2⟩, c3⟩ := hc
        obtain ⟨r, S', rfl, h0, hw, rfl⟩ := jobji_inv hst
        exact jx_obji hx hb ho (hml.trans hlen'.symm) (hts _ (jin_mem c1)) (hts _ (jin_mem c2)) (hts _ (jin_mem c3)) hfr hlo h0 hw hd (nx hX hlen')
      · cases hst
    all_goals (cases hst)
end JSound
end
section
/-! calls: a callee's contract is what the simple machine says of it -/
def jRm (d a b : Nat) : Room := { frames := d, cells := a, slots := b, locals := 60 * d }
def jPc (D : va_G) (cA : Nat → ClassId) (B b : Nat) (as : List AV) (h : JH) : Array Value → State → Prop := fun av U => av = (as.map (jv B b)).toArray ∧ jR D cA B b none (fun _ => 0) U U.heap h
def jQc (D : va_G) (cA : Nat → ClassId) (B b : Nat) (Q : Option AV → JH → Prop) : Array Value → State → Outcome → State → Prop := fun _ st oc t => (∃ (w : Option AV) (h' : JH), oc = .returned (w.map (jv B b)) ∧ (∀ a, w = some a → jok a) ∧ Q w h' ∧ jHp D cA B b t.heap h') ∧ va_F (fun q => B ≤ q) st t
theorem jPc_blind {D : va_G} {cA : Nat → ClassId} {B b : Nat} {as : List AV} {h : JH} : FrameBlind (jPc D cA B b as h) := fun a U g mk q => ⟨q.1, q.2.1, jKp.moved (s := U) (U := U.calling g mk a) (State.WarmedH.refl U) q.2.2 rfl⟩
theorem jGood {k : Nat} (h : jmOk k = true) : GoodIn jTB (jWs k) := by
  simp only [jmOk, Bool.and_eq_true] at h
  intro w hw
  rcases List.mem_cons.mp hw with e | e
  · subst e
    have := jcw_mem h.1.2
    exact ⟨this, good_of_word (List.mem_filter.mp this).2⟩
  · exact ⟨e, good_of_word (List.mem_filter.mp e).2⟩
theorem jmOk_d {k n : Nat} (h : jmOk k = true) (hn : jNA k = n) : (jY k).cls ≠ "java/lang/invoke/MethodHandle" ∧ (jY k).cls ≠ "java/lang/invoke/VarHandle" ∧ (parseMethodDescriptor (jY k).desc).map (fun d => d.parameters.length) = some n := by
  simp only [jmOk, Bool.and_eq_true, decide_eq_true_eq] at h
  subst hn
  exact ⟨h.1.1.1.1.1, h.1.1.1.1.2, h.1.1.2⟩
theorem jmOk_L {k : Nat} (h : jmOk k = true) : jML k ≤ 40 := by
  simp only [jmOk, Bool.and_eq_true, decide_eq_true_eq] at h
  exact h.2
section JCall
variable {p : Program} {l : Launch} {e : Env} {R : Room} {s : State} {m : MethodId} {args : Array Value} {below : List Frame} {meth : Method} {c : Code} {Q : State → Prop} {D : va_G} {cA : Nat → ClassId} {B b : Nat} {xl : Option Nat} {xs : Nat → Int}
theorem jx_run {pc : Nat} {L S S' : List AV} {h : JH} {cu su a b' : Nat} {Q' : Option AV → JH → Prop} {av : Array Value}
    (hB : B ≤ s.heap.size) (hrun : ∀ (H : Heap) (locs : List Loc) (ls : Array Slot), jHp D cA B b H h → va_S (fun q => B ≤ q) s.heap H locs → jL B b L ls → (∀ v ∈ S, jok v) → (∀ v ∈ S', jok v) ∧ va_Run p l e R s m args below meth c H locs cu su a b' (F0 m pc ls (S.map (jv B b))) (S'.map (jv B b)) (jQc D cA B b Q' av) (fun q => B ≤ q))
    (kk : ∀ (v : Option AV) (h' : JH), Q' v h' → jXW p l e R s m args below meth c Q D cA B b (pc + 3) L (v.toList ++ S') h' (cu + a) (su + b')) : jXW p l e R s m args below meth c Q D cA B b pc L S h cu su := by
  intro H locs ls hH hS hL hs T hT X
  obtain ⟨hs', hr⟩ := hrun H locs ls hH hS hL hs
  obtain ⟨v, st₀, t, T', Lc, h0, X', hLc, e1, e2, ⟨⟨w, h', hv, hw, hQ, hH'⟩, hz, hkp⟩, stp⟩ := hr T hT X
  have hv' : v = w.map (jv B b) := by injection hv
  subst hv'
  rw [h0] at hz hkp
  have hS' : va_S (fun q => B ≤ q) s.heap T'.heap (locs ++ Lc) := by
    refine ⟨Nat.le_trans hS.1 (by rw [e1]; exact hz), fun q h1 h2 => ?_, fun q hq => ?_⟩
    · rw [e1, hkp q (Nat.lt_of_lt_of_le h1 hS.1) h2]
      exact hS.2.1 q h1 h2
    · rcases List.mem_append.mp hq with g | g
      · exact hS.2.2 q g
      · exact hLc q g
  obtain ⟨t2, a1, b1⟩ := kk w h' hQ T'.heap (locs ++ Lc) ls (by rw [e1]; exact hH') hS' hL (by
    intro q hq
    rcases List.mem_append.mp hq with g | g
    · exact hw q (by cases w with | none => cases g | some z => rw [List.mem_singleton.mp g])
    · exact hs' q g) T' rfl X'
  refine ⟨t2, stp t2 ?_, b1⟩
  have e5 : (w.map (jv B b)).toList ++ S'.map (jv B b) = (w.toList ++ S').map (jv B b) := by cases w <;> rfl
  rw [e5]
  exact a1
theorem jpre {H : Heap} {locs : List Loc} {as : List AV} {h : JH} (hKp : jKp D cA B b xl xs s s.heap) (hB : B ≤ s.heap.size) (hH : jHp D cA B b H h) (hS : va_S (fun q => B ≤ q) s.heap H locs) : ∀ U : State, U.heap = H → s.WarmedH U.vm → jPc D cA B b as h (as.map (jv B b)).toArray U := by
  intro U hU hW
  exact ⟨rfl, by rw [hU]; exact hH, hKp.1.moved hW, hKp.2.1, fun n hn => by cases hn⟩
theorem jroom {S : List AV} {pc : Nat} {ls : Array Slot} {st : List Value} (hs : ∀ v ∈ S, jok v) (hw : jwid S ≤ 8) : 2 * (F0 m pc ls st).monitorRoom + ((S.map (jv B b)).map fun v => v.category).sum ≤ 8 := by
  rw [jcat_sum S hs]
  show 2 * 0 + _ ≤ 8
  omega
theorem jsplit {S : List AV} {n : Nat} {v : AV} (h : S[n]? = some v) : S = S.take n ++ v :: S.drop (n + 1) := by
  obtain ⟨hl, he⟩ := List.getElem?_eq_some_iff.mp h
  rw [← he, ← List.drop_eq_getElem_cons hl, List.take_append_drop]
set_option maxHeartbeats 1000000 in
theorem jcall_ok {k d : Nat} (C : jCx p R s m args meth c D cA B b xl xs k) (hM : jchkN k = true) (hR1 : d + 1 ≤ R.frames) (hR2 : 60 * (d + 1) ≤ R.locals) {K : List JE} {L S as S' : List AV} {h : JH} {cu su k' a b' : Nat} {Q' : Option AV → JH → Prop} (hcall : jcall K S h = some (k', as, S'))
    (hMet : (∀ v ∈ as, jok v) → Met l (jY k') (jWs k') (jRm d a b') (jPc D cA B b as h) (jQc D cA B b Q') a b' (fun q => B ≤ q)) (hcu : cu + a ≤ R.cells) (hsu : su + b' ≤ R.slots)
    (kk : ∀ (v : Option AV) (h' : JH), Q' v h' → jX p l e R s m args below meth c Q D cA B b k (K.tail, L, v.toList ++ S', h', cu + a, su + b')) : jX p l e R s m args below meth c Q D cA B b k (K, L, S, h, cu, su) := by
  obtain ⟨hx, hb, hml, ho, hts, hKp, hB, hnm, hfr, hlo⟩ := C
  have hK := hKp.1
  match K, hcall, kk with
  | [], hcall, kk => cases hcall
  | (pc, i, n, ps, z) :: K', hcall, kk =>
    refine ⟨by simp, fun hsf hlen => ?_⟩
    obtain ⟨hd, hc, hsK, hpK⟩ := jchkM_at hM hsf
    have hlen' : L.length = jML k := hlen
    simp only at hd hpK
    show jXW p l e R s m args below meth c Q D cA B b pc L S h cu su
    have fin : n = 3 → ∀ (v : Option AV) (h' : JH), Q' v h' → jXW p l e R s m args below meth c Q D cA B b (pc + 3) L (v.toList ++ S') h' (cu + a) (su + b') := by
      intro hn v h' hq
      have h1 := kk v h' hq
      have h2 := h1.2 hsK hlen'
      simp only [List.tail_cons] at h2
      have h3 : K' ≠ [] := h1.1
      rw [hpK h3, hn] at h2
      exact h2
    simp only [jcall] at hcall
    simp only [jchkL] at hc
    cases i
    case invokestatic x =>
      dsimp only at hcall hc
      split at hcall
      · rename_i hcond
        obtain ⟨hk, hle, hwd⟩ := hcond
        simp only [Option.some.injEq, Prod.mk.injEq] at hcall
        obtain ⟨e1, e2, e3⟩ := hcall
        subst e2
        subst e3
        simp only [Bool.and_eq_true, beq_iff_eq] at hc
        obtain ⟨hn, hc⟩ := hc
        subst hn
        have hlenA : (((S.take (ps.getD 1 0)).reverse).map (jv B b)).length = ps.getD 1 0 := by rw [List.length_map, List.length_reverse, List.length_take]; omega
        have hstk : S.map (jv B b) = (((S.take (ps.getD 1 0)).reverse).map (jv B b)).reverse ++ (S.drop (ps.getD 1 0)).map (jv B b) := by
          rw [← List.map_reverse, List.reverse_reverse, ← List.map_append, List.take_append_drop]
        have hsub : (∀ v ∈ S, jok v) → (∀ v ∈ (S.take (ps.getD 1 0)).reverse, jok v) ∧ ∀ v ∈ S.drop (ps.getD 1 0), jok v := fun g => ⟨fun v hv => g v (List.mem_of_mem_take (List.mem_reverse.mp hv)), fun v hv => g v (List.mem_of_mem_drop hv)⟩
        rcases hk with hk | hk
        · rw [if_pos hk] at hc
          simp only [Bool.and_eq_true, decide_eq_true_eq] at hc
          obtain ⟨⟨⟨⟨c1, c2⟩, c3⟩, c4⟩, c5⟩ := hc
          rw [e1] at c1 c2 c3 c4 c5
          refine jx_run (av := (((S.take (ps.getD 1 0)).reverse).map (jv B b)).toArray) hB (fun H locs ls hH hS hL hs => ⟨(hsub hs).2, ?_⟩) (fin rfl)
          exact va_runS (As := ((S.take (ps.getD 1 0)).reverse).map (jv B b)) ⟨hx, hb, hml, ho, hts⟩ (hMet (hsub hs).1) ⟨callB_of (ps.getD 1 0) hts (jGood c1) rfl rfl rfl (hts _ (jin_mem c5)) (hts _ (jin_mem c3)) (jmOk_d c1 c2) ⟨hR1, by have := jmOk_L c1; show 8 + (jML k' + 11) + 60 * d ≤ _; omega⟩, hts _ (jin_mem c4)⟩ ⟨jPc_blind, jpre hKp hB hH hS⟩ rfl hlenA (hL.1.trans hlen') hstk (jroom (hsub hs).2 hwd) hd ⟨hcu, hsu⟩
        · rw [if_neg (by omega), if_pos hk] at hc
          simp only [Bool.and_eq_true, decide_eq_true_eq] at hc
          obtain ⟨⟨⟨⟨c1, c2⟩, c3⟩, c4⟩, c5⟩ := hc
          rw [e1] at c1 c2 c3 c4 c5
          refine jx_run (av := (((S.take (ps.getD 1 0)).reverse).map (jv B b)).toArray) hB (fun H locs ls hH hS hL hs => ⟨(hsub hs).2, ?_⟩) (fin rfl)
          exact va_runSN (As := ((S.take (ps.getD 1 0)).reverse).map (jv B b)) ⟨hx, hb, hml, ho, hts⟩ (hMet (hsub hs).1) ⟨va_cnB (ps.getD 1 0) hts (jGood c1) rfl rfl rfl (hK.2.2.1 _ (jinN_mem c3)) (hts _ (jin_mem c5)) (jmOk_d c1 c2) ⟨hR1, by have := jmOk_L c1; show 8 + (jML k' + 11) + 60 * d ≤ _; omega⟩, hts _ (jin_mem c4), trivial⟩ ⟨jPc_blind, jpre hKp hB hH hS⟩ rfl hlenA (hL.1.trans hlen') hstk (jroom (hsub hs).2 hwd) hd ⟨hcu, hsu⟩
      · cases hcall
    case invokespecial x =>
      dsimp only at hcall hc
      split at hcall
      · rename_i v hv
        split at hcall
        · rename_i hcond
          obtain ⟨hk, hv2, hv0, hwd⟩ := hcond
          obtain ⟨vt, r⟩ := v
          simp only at hv2 hv0
          subst hv2
          simp only [Option.some.injEq, Prod.mk.injEq] at hcall
          obtain ⟨e1, e2, e3⟩ := hcall
          subst e2
          subst e3
          simp only [Bool.and_eq_true, beq_iff_eq] at hc
          obtain ⟨hn, hc⟩ := hc
          subst hn
          have hle : ps.getD 1 0 < S.length := (List.getElem?_eq_some_iff.mp hv).1
          have hlenA : (((S.take (ps.getD 1 0)).reverse).map (jv B b)).length = ps.getD 1 0 := by rw [List.length_map, List.length_reverse, List.length_take]; omega
          have hstk : S.map (jv B b) = (((S.take (ps.getD 1 0)).reverse).map (jv B b)).reverse ++ .ref (B + r.toNat) :: (S.drop (ps.getD 1 0 + 1)).map (jv B b) := by
            conv => lhs; rw [jsplit hv]
            rw [← List.map_reverse, List.reverse_reverse, List.map_append, List.map_cons, jv_r B b hv0]
          have hsub : (∀ v ∈ S, jok v) → (∀ v ∈ (2, r) :: (S.take (ps.getD 1 0)).reverse, jok v) ∧ ∀ v ∈ S.drop (ps.getD 1 0 + 1), jok v := fun g => ⟨jmc (jok_a.mpr (by omega)) (fun v hv => g v (List.mem_of_mem_take (List.mem_reverse.mp hv))), fun v hv => g v (List.mem_of_mem_drop hv)⟩
          have hav : (((2, r) :: (S.take (ps.getD 1 0)).reverse).map (jv B b)).toArray = (Value.ref (B + r.toNat) :: ((S.take (ps.getD 1 0)).reverse).map (jv B b)).toArray := by rw [List.map_cons, jv_r B b hv0]
          rcases hk with hk | hk
          · rw [if_pos hk] at hc
            simp only [Bool.and_eq_true, decide_eq_true_eq] at hc
            obtain ⟨⟨⟨⟨⟨⟨c1, c2⟩, c3⟩, c4⟩, c5⟩, c6⟩, c7⟩ := hc
            rw [e1] at c1 c2 c3 c4 c5 c6 c7
            refine jx_run (av := (Value.ref (B + r.toNat) :: ((S.take (ps.getD 1 0)).reverse).map (jv B b)).toArray) hB (fun H locs ls hH hS hL hs => ⟨(hsub hs).2, ?_⟩) (fin rfl)
            have hp := jpre (as := (2, r) :: (S.take (ps.getD 1 0)).reverse) hKp hB hH hS
            rw [hav] at hp
            have hcb := callB_of (R := R) (rm := jRm d a b') (mc := a) (ms := b') (ps.getD 1 0) hts (jGood c1) rfl rfl rfl (hts _ (jin_mem c5)) (hts _ (jin_mem c3)) (jmOk_d c1 c2) ⟨hR1, by have := jmOk_L c1; show 8 + (jML k' + 11) + 60 * d ≤ _; omega⟩
            rw [c7] at hcb
            exact va_runI (As := ((S.take (ps.getD 1 0)).reverse).map (jv B b)) (b := B + r.toNat) ⟨hx, hb, hml, ho, hts⟩ (hMet (hsub hs).1) ⟨hcb, c6, hts _ (jin_mem c4)⟩ ⟨jPc_blind, hp⟩ rfl hlenA (hL.1.trans hlen') hstk (jroom (hsub hs).2 hwd) hd ⟨hcu, hsu⟩
          · rw [if_neg (by omega), if_pos hk] at hc
            simp only [Bool.and_eq_true, decide_eq_true_eq] at hc
            obtain ⟨⟨⟨⟨⟨⟨c1, c2⟩, c3⟩, c4⟩, c5⟩, c6⟩, c7⟩ := hc
            rw [e1] at c1 c2 c3 c4 c5 c6 c7
            refine jx_run (av := (Value.ref (B + r.toNat) :: ((S.take (ps.getD 1 0)).reverse).map (jv B b)).toArray) hB (fun H locs ls hH hS hL hs => ⟨(hsub hs).2, ?_⟩) (fin rfl)
            have hp := jpre (as := (2, r) :: (S.take (ps.getD 1 0)).reverse) hKp hB hH hS
            rw [hav] at hp
            have hcb := va_cnB (R := R) (rm := jRm d a b') (mc := a) (ms := b') (ps.getD 1 0) hts (jGood c1) rfl rfl rfl (hK.2.2.1 _ (jinN_mem c3)) (hts _ (jin_mem c5)) (jmOk_d c1 c2) ⟨hR1, by have := jmOk_L c1; show 8 + (jML k' + 11) + 60 * d ≤ _; omega⟩
            rw [c7] at hcb
            exact va_runIN (As := ((S.take (ps.getD 1 0)).reverse).map (jv B b)) (b := B + r.toNat) ⟨hx, hb, hml, ho, hts⟩ (hMet (hsub hs).1) ⟨hcb, c6, hts _ (jin_mem c4)⟩ ⟨jPc_blind, hp⟩ rfl hlenA (hL.1.trans hlen') hstk (jroom (hsub hs).2 hwd) hd ⟨hcu, hsu⟩
        · cases hcall
      · cases hcall
    case invokevirtual x =>
      dsimp only at hcall hc
      split at hcall
      · rename_i v hv
        split at hcall
        · rename_i hcond
          obtain ⟨hk, hv2, hv0, hvl, htg, hwd⟩ := hcond
          obtain ⟨vt, r⟩ := v
          simp only at hv2 hv0 hvl htg
          subst hv2
          simp only [Option.some.injEq, Prod.mk.injEq] at hcall
          obtain ⟨e1, e2, e3⟩ := hcall
          subst e2
          subst e3
          simp only [Bool.and_eq_true, beq_iff_eq] at hc
          obtain ⟨hn, hc⟩ := hc
          subst hn
          have hle : ps.getD 1 0 < S.length := (List.getElem?_eq_some_iff.mp hv).1
          have hlenA : (((S.take (ps.getD 1 0)).reverse).map (jv B b)).length = ps.getD 1 0 := by rw [List.length_map, List.length_reverse, List.length_take]; omega
          have hstk : S.map (jv B b) = (((S.take (ps.getD 1 0)).reverse).map (jv B b)).reverse ++ .ref (B + r.toNat) :: (S.drop (ps.getD 1 0 + 1)).map (jv B b) := by
            conv => lhs; rw [jsplit hv]
            rw [← List.map_reverse, List.reverse_reverse, List.map_append, List.map_cons, jv_r B b hv0]
          have hsub : (∀ v ∈ S, jok v) → (∀ v ∈ (2, r) :: (S.take (ps.getD 1 0)).reverse, jok v) ∧ ∀ v ∈ S.drop (ps.getD 1 0 + 1), jok v := fun g => ⟨jmc (jok_a.mpr (by omega)) (fun v hv => g v (List.mem_of_mem_take (List.mem_reverse.mp hv))), fun v hv => g v (List.mem_of_mem_drop hv)⟩
          have hav : (((2, r) :: (S.take (ps.getD 1 0)).reverse).map (jv B b)).toArray = (Value.ref (B + r.toNat) :: ((S.take (ps.getD 1 0)).reverse).map (jv B b)).toArray := by rw [List.map_cons, jv_r B b hv0]
          rw [if_pos hk] at hc
          simp only [Bool.and_eq_true, decide_eq_true_eq] at hc
          obtain ⟨⟨⟨⟨⟨⟨c1, c2⟩, c3⟩, c4⟩, c5⟩, c6⟩, c7⟩ := hc
          rw [e1] at c1 c2 c3 c4 c5 c6 c7
          split at c3
          · rename_i q hq
            simp only [decide_eq_true_eq] at c3
            refine jx_run (av := (Value.ref (B + r.toNat) :: ((S.take (ps.getD 1 0)).reverse).map (jv B b)).toArray) hB (fun H locs ls hH hS hL hs => ⟨(hsub hs).2, ?_⟩) (fin rfl)
            have hp := jpre (as := (2, r) :: (S.take (ps.getD 1 0)).reverse) hKp hB hH hS
            rw [hav] at hp
            obtain ⟨cell, q1, q2, q3⟩ := jbody hH hvl htg (jcl_lt hq)
            exact va_runV (As := ((S.take (ps.getD 1 0)).reverse).map (jv B b)) (C := (jY k').cls) (b := B + r.toNat) ⟨hx, hb, hml, ho, hts⟩ (hMet (hsub hs).1) ⟨callB_of (ps.getD 1 0) hts (jGood c1) rfl rfl rfl (hts _ (jin_mem c7)) (hts _ (jin_mem c4)) (jmOk_d c1 c2) ⟨hR1, by have := jmOk_L c1; show 8 + (jML k' + 11) + 60 * d ≤ _; omega⟩, hts _ (jin_mem c5), hts _ (jin_mem c6)⟩ ⟨jPc_blind, ⟨cell, q1, by rw [q3]; rfl, by rw [q2, c3]; exact (hK.1 _ q hq).2.1⟩, hp⟩ rfl hlenA (hL.1.trans hlen') hstk (jroom (hsub hs).2 hwd) hd ⟨hcu, hsu⟩
          · cases c3
        · cases hcall
      · cases hcall
    all_goals (cases hcall)
end JCall
/-! the arguments, as a method finds them -/
theorem jexp_at {B b : Nat} (as : List AV) (h : ∀ v ∈ as, jok v) : ∀ (o i : Nat) (v : AV), (jexp as)[i]? = some v → v.1 ≤ 2 → (o + i, jv B b v) ∈ lv_args o (as.map (jv B b)) ∧ jok v := by
  induction as with
  | nil => intro o i v hv; simp [jexp] at hv
  | cons w r ih =>
    intro o i v hv h2
    obtain ⟨g1, g2⟩ := jms1 h
    rw [List.map_cons]
    unfold lv_args
    rw [jv_cat B b g1]
    unfold jexp at hv
    by_cases hw : w.1 = 1
    · rw [if_pos hw] at hv
      rw [if_pos hw, if_pos rfl]
      match i, hv with
      | 0, hv =>
        simp only [List.getElem?_cons_zero, Option.some.injEq] at hv
        subst hv
        exact ⟨List.mem_cons_self, g1⟩
      | 1, hv =>
        simp only [List.getElem?_cons_succ, List.getElem?_cons_zero, Option.some.injEq] at hv
        subst hv
        simp at h2
      | i + 2, hv =>
        simp only [List.getElem?_cons_succ] at hv
        obtain ⟨a1, a2⟩ := ih g2 (o + 2) i v hv h2
        exact ⟨List.mem_cons_of_mem _ (by rw [show o + (i + 2) = o + 2 + i by omega]; exact a1), a2⟩
    · rw [if_neg hw] at hv
      rw [if_neg hw, if_neg (by decide)]
      match i, hv with
      | 0, hv =>
        simp only [List.getElem?_cons_zero, Option.some.injEq] at hv
        subst hv
        exact ⟨List.mem_cons_self, g1⟩
      | i + 1, hv =>
        simp only [List.getElem?_cons_succ] at hv
        obtain ⟨a1, a2⟩ := ih g2 (o + 1) i v hv h2
        exact ⟨List.mem_cons_of_mem _ (by rw [show o + (i + 1) = o + 1 + i by omega]; exact a1), a2⟩
theorem jexp_len {B b : Nat} (as : List AV) (h : ∀ v ∈ as, jok v) : (lg_sl (as.map (jv B b))).length = (jexp as).length := by
  induction as with
  | nil => rfl
  | cons w r ih =>
    obtain ⟨g1, g2⟩ := jms1 h
    have := ih g2
    unfold lg_sl at this ⊢
    rw [List.map_cons, List.flatMap_cons, List.length_append, this, jv_cat B b g1, show jexp (w :: r) = if w.1 = 1 then w :: (9, 0) :: jexp r else w :: jexp r from rfl]
    by_cases hw : w.1 = 1
    · simp only [if_pos hw, List.length_cons, List.length_nil]
      simp
      omega
    · simp only [if_neg hw, List.length_cons, List.length_nil]
      simp
      omega
theorem jL_entry {B b : Nat} {as : List AV} {n : Nat} (h : ∀ v ∈ as, jok v) (hl : (jexp as).length ≤ n) : jL B b (jentry as n) ((lg_sl (as.map (jv B b)) ++ List.replicate (n - (lg_sl (as.map (jv B b))).length) Slot.unset).toArray) := by
  have hh := lv_entry (as.map (jv B b)) (n := n) (by rw [jexp_len as h]; exact hl)
  refine ⟨?_, hh.2.1, fun i v hv h2 => ?_⟩
  · rw [hh.1]
    simp [jentry]
    omega
  · unfold jentry at hv
    by_cases hi : i < (jexp as).length
    · rw [List.getElem?_append_left hi] at hv
      obtain ⟨a1, a2⟩ := jexp_at (B := B) (b := b) as h 0 i v hv h2
      rw [Nat.zero_add] at a1
      exact ⟨hh.2.2 _ a1, a2⟩
    · rw [List.getElem?_append_right (by omega)] at hv
      have := List.mem_of_getElem? hv
      rw [List.mem_replicate] at this
      rw [this.2] at h2
      simp at h2
theorem jentry_len {as : List AV} {n : Nat} (hl : (jexp as).length ≤ n) : (jentry as n).length = n := by
  simp [jentry]
  omega
theorem jofW {l : Launch} {y : MethodName} {ws ws' : List Cond} {rm : Room} {Pc : Array Value → State → Prop} {Qc : Array Value → State → Outcome → State → Prop} {mc ms : Nat} {free : Addr → Prop} {cc : ByteArray} {maxL : Nat} {ret : Option FieldType}
    (hy : plainFor y = true) (hw : ws = Cond.code y cc maxL ret :: ws')
    (body : ∀ p e s m args below meth c s₁, BodyLoose p l y (headSpec ws rm) cc maxL ret e s m args below meth c s₁ → c.maxLocals = maxL → Pc args s →
      W p l e (headSpec ws rm).room s m args below meth c s.heap [] 0 0 (MQ below Qc args s mc ms free) (entryFrame m args maxL)) : Met l y ws rm Pc Qc mc ms free := by
  refine MetFree.of_bodyRF (code := cc) (maxLocals := maxL) (ret := ret) hy ?_ ?_
  · intro args s m h hn
    obtain ⟨meth, c, h1, h2, h3, h4, h5, h6, -, -⟩ := Cond.code_spec hn (atoms_spec (ws := ws) h _ (by rw [hw]; exact List.mem_cons_self))
    exact ⟨meth, c, h1, h2, h3, h4, h5, h6⟩
  · intro p e s m args below meth c s₁ B hml hP _ hst
    have hh0 : s₁.heap = s.heap := by rw [B.state]; rfl
    obtain ⟨t, a1, o, b1, b2, b3⟩ := body p e s m args below meth c s₁ B hml hP s₁ hh0 (Stand.of_body B)
    exact ⟨t, o, hst.trans a1, b1, b2, ⟨b3.1, b3.2⟩⟩
set_option maxHeartbeats 1000000 in
/-- what the simple machine says of a call holds of the real one -/
theorem jsound {l : Launch} {D : va_G} {cA : Nat → ClassId} {B b : Nat} (hall : ∀ k, k < jnM → jP k ≠ [] → jchkM k = true) : ∀ (d a b' k : Nat) (as : List AV) (h : JH) (Q : Option AV → JH → Prop), jOk d a b' k as h Q → (∀ v ∈ as, jok v) →
    Met l (jY k) (jWs k) (jRm d a b') (jPc D cA B b as h) (jQc D cA B b Q) a b' (fun q => B ≤ q) := by
  intro d
  induction d with
  | zero => intro a b' k as h Q hok; exact hok.elim
  | succ d ih =>
    intro a b' k as h Q hok has
    obtain ⟨hk, hlen, hev⟩ := hok
    by_cases hne : jP k = []
    · exfalso
      refine hev (fun st => st.1 ≠ []) ?_ ?_ ?_ hne
      · intro st st' h1 _ _ h2
        obtain ⟨K, r⟩ := st
        simp only at h2
        subst h2
        cases h1
      · intro K L S h' cu su v h1 _ _ _ h2
        simp only at h2
        subst h2
        cases h1
      · intro K L S h' cu su k' as' S' x y Q' h1 _ _ _ _ h2
        simp only at h2
        subst h2
        cases h1
    have hM0 := hall k hk hne
    simp only [jchkM, Bool.and_eq_true] at hM0
    obtain ⟨hM, hmk⟩ := hM0
    have hM' := hM
    simp only [jchkN, Bool.and_eq_true] at hM'
    obtain ⟨⟨⟨-, -⟩, -⟩, hp0⟩ := hM'
    have hmk' := hmk
    simp only [jmOk, Bool.and_eq_true, decide_eq_true_eq] at hmk'
    refine jofW (cc := jBy k) (maxL := jML k) (ret := jRt k) (jpl_ok hmk'.1.1.1.2) rfl ?_
    intro p e s m args below meth c s₁ BB hml hP
    obtain ⟨rfl, hH, hKp⟩ := hP
    have hts0 := atoms_spec (ws := jWs k) BB.pre
    have hBs : B ≤ s.heap.size := by rw [hH.1]; omega
    have hR : (headSpec (jWs k) (jRm (d + 1) a b')).room = jRm (d + 1) a b' := rfl
    have C : jCx p (jRm (d + 1) a b') s m (as.map (jv B b)).toArray meth c D cA B b none (fun _ => 0) k := ⟨BB.exec, BB.bytes, hml, findClass_of_methodNamed BB.named, fun w hw => hts0 w (List.mem_cons_of_mem _ hw), hKp, hBs, fun h => (name_of_methodNamed BB.named BB.method).1.trans h, by show 1 ≤ d + 1; omega, by show 60 ≤ 60 * (d + 1); omega⟩
    have hlocks := BB.notSynchronized
    have hret := BB.returns
    have key := hev (jX p l e (jRm (d + 1) a b') s m (as.map (jv B b)).toArray below meth c (MQ below (jQc D cA B b Q) (as.map (jv B b)).toArray s a b' (fun q => B ≤ q)) D cA B b k) ?_ ?_ ?_
    · have h1 := key.2 ⟨[], rfl⟩ (jentry_len hlen)
      simp only at h1
      have hpz : jpc (jP k) = 0 := by simpa using hp0
      rw [hpz] at h1
      have h2 := h1 s.heap [] _ hH va_S.rf (jL_entry has hlen) (fun v hv => by cases hv)
      rw [hR, lg_entry_eq]
      exact h2
    · intro st st' h1 h2 h3
      exact jstep_ok C hM h1 h2 h3
    · intro K L S h' cu su v hv h2 h3 hQ
      revert hv
      match K with
      | [] => intro hv; cases hv
      | (pc, i, n, ps, z) :: K' =>
        intro hv
        refine ⟨by simp, fun hsf hlen2 => ?_⟩
        obtain ⟨hd, hc, hsK, hpK⟩ := jchkM_at hM hsf
        simp only at hd
        show jXW _ _ _ _ _ _ _ _ _ _ _ _ _ _ _ pc L S h' cu su
        intro H locs ls hH' hS hL hs
        refine W.widen h2 h3 ?_
        have hq : ∀ w : Option AV, (∀ a, w = some a → jok a) → Q w h' → ∀ t : State, t.heap = H → s.WarmedH t.vm → jQc D cA B b Q (as.map (jv B b)).toArray s (.returned (w.map (jv B b))) t := by
          intro w hw hqw t ht _
          exact ⟨⟨w, h', rfl, hw, hqw, by rw [ht]; exact hH'⟩, by rw [ht]; exact hS.1, fun q g1 g2 => by rw [ht]; exact hS.2.1 q g1 g2⟩
        simp only [jret] at hv
        simp only [jchkL] at hc
        cases i
        case return_ =>
          dsimp only at hv hc
          simp only [Bool.and_eq_true, beq_iff_eq, decide_eq_true_eq] at hc
          obtain ⟨hn, hc⟩ := hc
          split at hv
          · rename_i hS0
            subst hS0
            cases hv
            have hd1 : decode (jBy k) pc = .ok (.return_, 1) := by rw [hd, hn]
            exact W.vret BB.exec BB.bytes (by rw [hret, hc]) (hq none (fun _ g => by cases g) hQ) (fun q hq => hS.2.2 q hq) hd1 hlocks
          · cases hv
        case ireturn =>
          dsimp only at hv hc
          simp only [Bool.and_eq_true, beq_iff_eq] at hc
          obtain ⟨hn, hc⟩ := hc
          split at hv
          · rename_i w
            split at hv
            · rename_i hw
              cases hv
              obtain ⟨wt, wv⟩ := w
              obtain ⟨hw1, hw2⟩ := hw
              simp only at hw1 hw2
              subst hw1
              have hwo := (jms1 hs).1
              have hd1 : decode (jBy k) pc = .ok (.ireturn, 1) := by rw [hd, hn]
              by_cases hps : jhd ps = 1
              · rw [if_pos hps] at hc
                simp only [decide_eq_true_eq] at hc
                exact W.zret (ty := .boolean) BB.exec BB.bytes (by rw [hret, hc]) (by rcases hw2 hps with g | g <;> rw [g] <;> decide) (hq (some (0, wv)) (fun a g => by cases g; exact hwo) hQ) (fun q hq => hS.2.2 q hq) hd1 hlocks
              · rw [if_neg hps] at hc
                simp only [decide_eq_true_eq] at hc
                exact W.iret BB.exec BB.bytes (by rw [hret, hc]) (hq (some (0, wv)) (fun a g => by cases g; exact hwo) hQ) (fun q hq => hS.2.2 q hq) hd1 hlocks
            · cases hv
          · cases hv
        case lreturn =>
          dsimp only at hv hc
          simp only [Bool.and_eq_true, beq_iff_eq, decide_eq_true_eq] at hc
          obtain ⟨hn, hc⟩ := hc
          split at hv
          · rename_i w
            split at hv
            · rename_i hw
              cases hv
              obtain ⟨wt, wv⟩ := w
              simp only at hw
              subst hw
              have hwo := (jms1 hs).1
              have hd1 : decode (jBy k) pc = .ok (.lreturn, 1) := by rw [hd, hn]
              exact W.lret BB.exec BB.bytes (by rw [hret, hc]) (hq (some (1, wv)) (fun a g => by cases g; exact hwo) hQ) (fun q hq => hS.2.2 q hq) hd1 hlocks
            · cases hv
          · cases hv
        case areturn =>
          dsimp only at hv hc
          simp only [Bool.and_eq_true, beq_iff_eq] at hc
          obtain ⟨hn, hc⟩ := hc
          split at hv
          · rename_i w
            split at hv
            · rename_i hw
              cases hv
              obtain ⟨wt, wv⟩ := w
              simp only at hw
              subst hw
              have hwo := (jms1 hs).1
              have hd1 : decode (jBy k) pc = .ok (.areturn, 1) := by rw [hd, hn]
              split at hc
              · rename_i nm hrt
                refine W.aret BB.exec BB.bytes (by rw [hret, hrt]) (Or.inl ⟨_, rfl⟩) ?_ (hq (some (2, wv)) (fun a g => by cases g; exact hwo) hQ) (fun q hq => hS.2.2 q hq) hd1 hlocks
                rcases (show wv = -1 ∨ wv = -2 ∨ 0 ≤ wv by have := jok_a.mp hwo; omega) with g | g | g
                · subst g
                  exact Or.inl rfl
                · subst g
                  exact Or.inr ⟨_, rfl⟩
                · exact Or.inr ⟨_, jv_r B b g⟩
              · cases hc
            · cases hv
          · cases hv
        all_goals (cases hv)
    · intro K L S h' cu su k' as' S' x y Q' h1 h2 h3 h4 h5
      exact jcall_ok C hM (d := d) (Nat.le_refl _) (Nat.le_refl _) h1 (fun has' => ih x y k' as' h' Q' h2 has') h3 h4 h5
end
section
/-! rules for runs of the simple machine -/
section JEv
variable {ok : Nat → Nat → Nat → List AV → JH → (Option AV → JH → Prop) → Prop} {xl : Option Nat} {xs : Nat → Int} {cd : List JE} {mc ms : Nat} {Q : Option AV → JH → Prop} {K K' : List JE} {L L' S S' : List AV} {h h' : JH} {cu su pc n : Nat} {ps : List Nat} {z : Int}
theorem ev_s {st st' : JS} (e : jstep xl xs cd st = some st') (hl : jlim mc ms st st') (k : jEv ok xl xs cd mc ms Q st') : jEv ok xl xs cd mc ms Q st := fun X a b c => a st st' e hl (k X a b c)
theorem ev_k {st st' : JS} (k : jEv ok xl xs cd mc ms Q st') (e : jstep xl xs cd st = some st') (hl : jlim mc ms st st') : jEv ok xl xs cd mc ms Q st := ev_s e hl k
theorem ev_ret {v : Option AV} (e : jret K S = some v) (h1 : cu ≤ mc) (h2 : su ≤ ms) (hQ : Q v h) : jEv ok xl xs cd mc ms Q (K, L, S, h, cu, su) := fun _ _ b _ => b K L S h cu su v e h1 h2 hQ
theorem ev_call {k a b : Nat} {as : List AV} {Q' : Option AV → JH → Prop} (e : jcall K S h = some (k, as, S')) (hok : ok a b k as h Q') (h1 : cu + a ≤ mc) (h2 : su + b ≤ ms) (kk : ∀ (v : Option AV) (h' : JH), Q' v h' → jEv ok xl xs cd mc ms Q (K.tail, L, v.toList ++ S', h', cu + a, su + b)) : jEv ok xl xs cd mc ms Q (K, L, S, h, cu, su) := fun X p q r => r K L S h cu su k as S' a b Q' e hok h1 h2 (fun v h' hq => kk v h' hq X p q r)
theorem jev_mono {ok' : Nat → Nat → Nat → List AV → JH → (Option AV → JH → Prop) → Prop} (hm : ∀ a b k as h Q, ok a b k as h Q → ok' a b k as h Q) {Q' : Option AV → JH → Prop} (hQ : ∀ v h, Q v h → Q' v h) {st : JS} (e : jEv ok xl xs cd mc ms Q st) : jEv ok' xl xs cd mc ms Q' st := fun X a b c => e X a (fun K L S h cu su v h1 h2 h3 h4 => b K L S h cu su v h1 h2 h3 (hQ v h h4)) (fun K L S h cu su k as S' x y Q1 h1 h2 h3 h4 h5 => c K L S h cu su k as S' x y Q1 h1 (hm _ _ _ _ _ _ h2) h3 h4 h5)

theorem ev_iconst {v : Int} (k : jEv ok xl xs cd mc ms Q (K, L, (0, v) :: S, h, cu, su)) : jEv ok xl xs cd mc ms Q ((pc, .iconst v, n, ps, z) :: K, L, S, h, cu, su) := ev_k k rfl (Or.inl ⟨rfl, rfl⟩)
theorem ev_bipush {v : Int} (k : jEv ok xl xs cd mc ms Q (K, L, (0, v) :: S, h, cu, su)) : jEv ok xl xs cd mc ms Q ((pc, .bipush v, n, ps, z) :: K, L, S, h, cu, su) := ev_k k rfl (Or.inl ⟨rfl, rfl⟩)
theorem ev_sipush {v : Int} (k : jEv ok xl xs cd mc ms Q (K, L, (0, v) :: S, h, cu, su)) : jEv ok xl xs cd mc ms Q ((pc, .sipush v, n, ps, z) :: K, L, S, h, cu, su) := ev_k k rfl (Or.inl ⟨rfl, rfl⟩)
theorem ev_lconst {v : Fin 2} (k : jEv ok xl xs cd mc ms Q (K, L, (1, (v.val : Int)) :: S, h, cu, su)) : jEv ok xl xs cd mc ms Q ((pc, .lconst v, n, ps, z) :: K, L, S, h, cu, su) := ev_k k rfl (Or.inl ⟨rfl, rfl⟩)
theorem ev_ldc {x : Nat} (k : jEv ok xl xs cd mc ms Q (K, L, (0, z) :: S, h, cu, su)) : jEv ok xl xs cd mc ms Q ((pc, .ldc x, n, ps, z) :: K, L, S, h, cu, su) := ev_k k rfl (Or.inl ⟨rfl, rfl⟩)
theorem ev_ldc_w {x : Nat} (k : jEv ok xl xs cd mc ms Q (K, L, (0, z) :: S, h, cu, su)) : jEv ok xl xs cd mc ms Q ((pc, .ldc_w x, n, ps, z) :: K, L, S, h, cu, su) := ev_k k rfl (Or.inl ⟨rfl, rfl⟩)
theorem ev_ldc2_w {x : Nat} (k : jEv ok xl xs cd mc ms Q (K, L, (1, z) :: S, h, cu, su)) : jEv ok xl xs cd mc ms Q ((pc, .ldc2_w x, n, ps, z) :: K, L, S, h, cu, su) := ev_k k rfl (Or.inl ⟨rfl, rfl⟩)
theorem ev_aconst_null (k : jEv ok xl xs cd mc ms Q (K, L, (2, -1) :: S, h, cu, su)) : jEv ok xl xs cd mc ms Q ((pc, .aconst_null, n, ps, z) :: K, L, S, h, cu, su) := ev_k k rfl (Or.inl ⟨rfl, rfl⟩)
theorem ev_iload {i : Nat} {v : Int} (hL : L[i]? = some (0, v)) (k : jEv ok xl xs cd mc ms Q (K, L, (0, v) :: S, h, cu, su)) : jEv ok xl xs cd mc ms Q ((pc, .iload i, n, ps, z) :: K, L, S, h, cu, su) := ev_k k (by simp [jstep, jld, hL]) (Or.inl ⟨rfl, rfl⟩)
theorem ev_iload_n {i : Fin 4} {v : Int} (hL : L[i.val]? = some (0, v)) (k : jEv ok xl xs cd mc ms Q (K, L, (0, v) :: S, h, cu, su)) : jEv ok xl xs cd mc ms Q ((pc, .iload_n i, n, ps, z) :: K, L, S, h, cu, su) := ev_k k (by simp [jstep, jld, hL]) (Or.inl ⟨rfl, rfl⟩)
theorem ev_lload {i : Nat} {v : Int} (hL : L[i]? = some (1, v)) (k : jEv ok xl xs cd mc ms Q (K, L, (1, v) :: S, h, cu, su)) : jEv ok xl xs cd mc ms Q ((pc, .lload i, n, ps, z) :: K, L, S, h, cu, su) := ev_k k (by simp [jstep, jld, hL]) (Or.inl ⟨rfl, rfl⟩)
theorem ev_lload_n {i : Fin 4} {v : Int} (hL : L[i.val]? = some (1, v)) (k : jEv ok xl xs cd mc ms Q (K, L, (1, v) :: S, h, cu, su)) : jEv ok xl xs cd mc ms Q ((pc, .lload_n i, n, ps, z) :: K, L, S, h, cu, su) := ev_k k (by simp [jstep, jld, hL]) (Or.inl ⟨rfl, rfl⟩)
theorem ev_aload {i : Nat} {v : Int} (hL : L[i]? = some (2, v)) (k : jEv ok xl xs cd mc ms Q (K, L, (2, v) :: S, h, cu, su)) : jEv ok xl xs cd mc ms Q ((pc, .aload i, n, ps, z) :: K, L, S, h, cu, su) := ev_k k (by simp [jstep, jld, hL]) (Or.inl ⟨rfl, rfl⟩)
theorem ev_aload_n {i : Fin 4} {v : Int} (hL : L[i.val]? = some (2, v)) (k : jEv ok xl xs cd mc ms Q (K, L, (2, v) :: S, h, cu, su)) : jEv ok xl xs cd mc ms Q ((pc, .aload_n i, n, ps, z) :: K, L, S, h, cu, su) := ev_k k (by simp [jstep, jld, hL]) (Or.inl ⟨rfl, rfl⟩)
theorem ev_istore {i : Nat} {v : Int} (hi : i < L.length) (hL : jput L i (0, v) = L') (k : jEv ok xl xs cd mc ms Q (K, L', S, h, cu, su)) : jEv ok xl xs cd mc ms Q ((pc, .istore i, n, ps, z) :: K, L, (0, v) :: S, h, cu, su) := ev_k k (by simp [jstep, jst, hi, ← hL]) (Or.inl ⟨rfl, rfl⟩)
theorem ev_istore_n {i : Fin 4} {v : Int} (hi : i.val < L.length) (hL : jput L i.val (0, v) = L') (k : jEv ok xl xs cd mc ms Q (K, L', S, h, cu, su)) : jEv ok xl xs cd mc ms Q ((pc, .istore_n i, n, ps, z) :: K, L, (0, v) :: S, h, cu, su) := ev_k k (by simp [jstep, jst, hi, ← hL]) (Or.inl ⟨rfl, rfl⟩)
theorem ev_astore {i : Nat} {v : Int} (hi : i < L.length) (hL : jput L i (2, v) = L') (k : jEv ok xl xs cd mc ms Q (K, L', S, h, cu, su)) : jEv ok xl xs cd mc ms Q ((pc, .astore i, n, ps, z) :: K, L, (2, v) :: S, h, cu, su) := ev_k k (by simp [jstep, jst, hi, ← hL]) (Or.inl ⟨rfl, rfl⟩)
theorem ev_astore_n {i : Fin 4} {v : Int} (hi : i.val < L.length) (hL : jput L i.val (2, v) = L') (k : jEv ok xl xs cd mc ms Q (K, L', S, h, cu, su)) : jEv ok xl xs cd mc ms Q ((pc, .astore_n i, n, ps, z) :: K, L, (2, v) :: S, h, cu, su) := ev_k k (by simp [jstep, jst, hi, ← hL]) (Or.inl ⟨rfl, rfl⟩)
theorem ev_lstore {i : Nat} {v : Int} (hi : i + 1 < L.length) (hL : jput2 L i (1, v) = L') (k : jEv ok xl xs cd mc ms Q (K, L', S, h, cu, su)) : jEv ok xl xs cd mc ms Q ((pc, .lstore i, n, ps, z) :: K, L, (1, v) :: S, h, cu, su) := ev_k k (by simp [jstep, jst2, hi, ← hL]) (Or.inl ⟨rfl, rfl⟩)
theorem ev_lstore_n {i : Fin 4} {v : Int} (hi : i.val + 1 < L.length) (hL : jput2 L i.val (1, v) = L') (k : jEv ok xl xs cd mc ms Q (K, L', S, h, cu, su)) : jEv ok xl xs cd mc ms Q ((pc, .lstore_n i, n, ps, z) :: K, L, (1, v) :: S, h, cu, su) := ev_k k (by simp [jstep, jst2, hi, ← hL]) (Or.inl ⟨rfl, rfl⟩)
theorem ev_iinc {i : Nat} {v w c : Int} (hv : L[i]? = some (0, v)) (hw : w32 (v + c) = w) (hL : jput L i (0, w) = L') (k : jEv ok xl xs cd mc ms Q (K, L', S, h, cu, su)) : jEv ok xl xs cd mc ms Q ((pc, .iinc i c, n, ps, z) :: K, L, S, h, cu, su) := ev_k k (by simp [jstep, jinc, hv, hw, ← hL]) (Or.inl ⟨rfl, rfl⟩)
theorem ev_pop {t : Nat} {v : Int} (ht : jsk t = 0) (k : jEv ok xl xs cd mc ms Q (K, L, S, h, cu, su)) : jEv ok xl xs cd mc ms Q ((pc, .pop, n, ps, z) :: K, L, (t, v) :: S, h, cu, su) := ev_k k (by simp [jstep, jpop, ht]) (Or.inl ⟨rfl, rfl⟩)
theorem ev_pop2 {v : Int} (k : jEv ok xl xs cd mc ms Q (K, L, S, h, cu, su)) : jEv ok xl xs cd mc ms Q ((pc, .pop2, n, ps, z) :: K, L, (1, v) :: S, h, cu, su) := ev_k k (by simp [jstep, jpop, jsk]) (Or.inl ⟨rfl, rfl⟩)
theorem ev_dup {t : Nat} {v : Int} (ht : t = 0 ∨ t = 2) (k : jEv ok xl xs cd mc ms Q (K, L, (t, v) :: (t, v) :: S, h, cu, su)) : jEv ok xl xs cd mc ms Q ((pc, .dup, n, ps, z) :: K, L, (t, v) :: S, h, cu, su) := ev_k k (by simp [jstep, jdup, ht]) (Or.inl ⟨rfl, rfl⟩)
theorem ev_dup2 {t u : Nat} {v w : Int} (ht : t = 0 ∨ t = 2) (hu : u = 0 ∨ u = 2) (k : jEv ok xl xs cd mc ms Q (K, L, (t, v) :: (u, w) :: (t, v) :: (u, w) :: S, h, cu, su)) : jEv ok xl xs cd mc ms Q ((pc, .dup2, n, ps, z) :: K, L, (t, v) :: (u, w) :: S, h, cu, su) := ev_k k (by
  have h1 : ¬ t = 1 := by omega
  simp [jstep, jdup2, ht, hu, h1]) (Or.inl ⟨rfl, rfl⟩)
theorem ev_iadd {x y r : Int} (hr : w32 (x + y) = r) (k : jEv ok xl xs cd mc ms Q (K, L, (0, r) :: S, h, cu, su)) : jEv ok xl xs cd mc ms Q ((pc, .iadd, n, ps, z) :: K, L, (0, y) :: (0, x) :: S, h, cu, su) := ev_k k (by simp [jstep, jbin, hr]) (Or.inl ⟨rfl, rfl⟩)
theorem ev_isub {x y r : Int} (hr : w32 (x - y) = r) (k : jEv ok xl xs cd mc ms Q (K, L, (0, r) :: S, h, cu, su)) : jEv ok xl xs cd mc ms Q ((pc, .isub, n, ps, z) :: K, L, (0, y) :: (0, x) :: S, h, cu, su) := ev_k k (by simp [jstep, jbin, hr]) (Or.inl ⟨rfl, rfl⟩)
theorem ev_imul {x y r : Int} (hr : w32 (x * y) = r) (k : jEv ok xl xs cd mc ms Q (K, L, (0, r) :: S, h, cu, su)) : jEv ok xl xs cd mc ms Q ((pc, .imul, n, ps, z) :: K, L, (0, y) :: (0, x) :: S, h, cu, su) := ev_k k (by simp [jstep, jbin, hr]) (Or.inl ⟨rfl, rfl⟩)
theorem ev_iand {x y r : Int} (hr : jand x y = r) (k : jEv ok xl xs cd mc ms Q (K, L, (0, r) :: S, h, cu, su)) : jEv ok xl xs cd mc ms Q ((pc, .iand, n, ps, z) :: K, L, (0, y) :: (0, x) :: S, h, cu, su) := ev_k k (by simp [jstep, jbin, hr]) (Or.inl ⟨rfl, rfl⟩)
theorem ev_ior {x y r : Int} (hr : jor x y = r) (k : jEv ok xl xs cd mc ms Q (K, L, (0, r) :: S, h, cu, su)) : jEv ok xl xs cd mc ms Q ((pc, .ior, n, ps, z) :: K, L, (0, y) :: (0, x) :: S, h, cu, su) := ev_k k (by simp [jstep, jbin, hr]) (Or.inl ⟨rfl, rfl⟩)
theorem ev_ixor {x y r : Int} (hr : jxor x y = r) (k : jEv ok xl xs cd mc ms Q (K, L, (0, r) :: S, h, cu, su)) : jEv ok xl xs cd mc ms Q ((pc, .ixor, n, ps, z) :: K, L, (0, y) :: (0, x) :: S, h, cu, su) := ev_k k (by simp [jstep, jbin, hr]) (Or.inl ⟨rfl, rfl⟩)
theorem ev_ishl {x y r : Int} (hr : jshl x y = r) (k : jEv ok xl xs cd mc ms Q (K, L, (0, r) :: S, h, cu, su)) : jEv ok xl xs cd mc ms Q ((pc, .ishl, n, ps, z) :: K, L, (0, y) :: (0, x) :: S, h, cu, su) := ev_k k (by simp [jstep, jbin, hr]) (Or.inl ⟨rfl, rfl⟩)
theorem ev_ishr {x y r : Int} (hr : jshr x y = r) (k : jEv ok xl xs cd mc ms Q (K, L, (0, r) :: S, h, cu, su)) : jEv ok xl xs cd mc ms Q ((pc, .ishr, n, ps, z) :: K, L, (0, y) :: (0, x) :: S, h, cu, su) := ev_k k (by simp [jstep, jbin, hr]) (Or.inl ⟨rfl, rfl⟩)
theorem ev_iushr {x y r : Int} (hr : jushr x y = r) (k : jEv ok xl xs cd mc ms Q (K, L, (0, r) :: S, h, cu, su)) : jEv ok xl xs cd mc ms Q ((pc, .iushr, n, ps, z) :: K, L, (0, y) :: (0, x) :: S, h, cu, su) := ev_k k (by simp [jstep, jbin, hr]) (Or.inl ⟨rfl, rfl⟩)
theorem ev_ladd {x y r : Int} (hr : w64 (x + y) = r) (k : jEv ok xl xs cd mc ms Q (K, L, (1, r) :: S, h, cu, su)) : jEv ok xl xs cd mc ms Q ((pc, .ladd, n, ps, z) :: K, L, (1, y) :: (1, x) :: S, h, cu, su) := ev_k k (by simp [jstep, jbin, hr]) (Or.inl ⟨rfl, rfl⟩)
theorem ev_lsub {x y r : Int} (hr : w64 (x - y) = r) (k : jEv ok xl xs cd mc ms Q (K, L, (1, r) :: S, h, cu, su)) : jEv ok xl xs cd mc ms Q ((pc, .lsub, n, ps, z) :: K, L, (1, y) :: (1, x) :: S, h, cu, su) := ev_k k (by simp [jstep, jbin, hr]) (Or.inl ⟨rfl, rfl⟩)
theorem ev_lmul {x y r : Int} (hr : w64 (x * y) = r) (k : jEv ok xl xs cd mc ms Q (K, L, (1, r) :: S, h, cu, su)) : jEv ok xl xs cd mc ms Q ((pc, .lmul, n, ps, z) :: K, L, (1, y) :: (1, x) :: S, h, cu, su) := ev_k k (by simp [jstep, jbin, hr]) (Or.inl ⟨rfl, rfl⟩)
theorem ev_land {x y r : Int} (hr : jandL x y = r) (k : jEv ok xl xs cd mc ms Q (K, L, (1, r) :: S, h, cu, su)) : jEv ok xl xs cd mc ms Q ((pc, .land, n, ps, z) :: K, L, (1, y) :: (1, x) :: S, h, cu, su) := ev_k k (by simp [jstep, jbin, hr]) (Or.inl ⟨rfl, rfl⟩)
theorem ev_lor {x y r : Int} (hr : jorL x y = r) (k : jEv ok xl xs cd mc ms Q (K, L, (1, r) :: S, h, cu, su)) : jEv ok xl xs cd mc ms Q ((pc, .lor, n, ps, z) :: K, L, (1, y) :: (1, x) :: S, h, cu, su) := ev_k k (by simp [jstep, jbin, hr]) (Or.inl ⟨rfl, rfl⟩)
theorem ev_lxor {x y r : Int} (hr : jxorL x y = r) (k : jEv ok xl xs cd mc ms Q (K, L, (1, r) :: S, h, cu, su)) : jEv ok xl xs cd mc ms Q ((pc, .lxor, n, ps, z) :: K, L, (1, y) :: (1, x) :: S, h, cu, su) := ev_k k (by simp [jstep, jbin, hr]) (Or.inl ⟨rfl, rfl⟩)
theorem ev_lshl {x y r : Int} (hr : jshlL x y = r) (k : jEv ok xl xs cd mc ms Q (K, L, (1, r) :: S, h, cu, su)) : jEv ok xl xs cd mc ms Q ((pc, .lshl, n, ps, z) :: K, L, (0, y) :: (1, x) :: S, h, cu, su) := ev_k k (by simp [jstep, jbin, hr]) (Or.inl ⟨rfl, rfl⟩)
theorem ev_lushr {x y r : Int} (hr : jushrL x y = r) (k : jEv ok xl xs cd mc ms Q (K, L, (1, r) :: S, h, cu, su)) : jEv ok xl xs cd mc ms Q ((pc, .lushr, n, ps, z) :: K, L, (0, y) :: (1, x) :: S, h, cu, su) := ev_k k (by simp [jstep, jbin, hr]) (Or.inl ⟨rfl, rfl⟩)
theorem ev_lcmp {x y : Int} (k : jEv ok xl xs cd mc ms Q (K, L, (0, jcmpL x y) :: S, h, cu, su)) : jEv ok xl xs cd mc ms Q ((pc, .lcmp, n, ps, z) :: K, L, (1, y) :: (1, x) :: S, h, cu, su) := ev_k k (by simp [jstep, jbin]) (Or.inl ⟨rfl, rfl⟩)
theorem ev_idiv {x y r : Int} (hy : y ≠ 0) (hr : w32 (x.tdiv y) = r) (k : jEv ok xl xs cd mc ms Q (K, L, (0, r) :: S, h, cu, su)) : jEv ok xl xs cd mc ms Q ((pc, .idiv, n, ps, z) :: K, L, (0, y) :: (0, x) :: S, h, cu, su) := ev_k k (by simp [jstep, jdiv, hy, hr]) (Or.inl ⟨rfl, rfl⟩)
theorem ev_irem {x y r : Int} (hy : y ≠ 0) (hr : x.tmod y = r) (k : jEv ok xl xs cd mc ms Q (K, L, (0, r) :: S, h, cu, su)) : jEv ok xl xs cd mc ms Q ((pc, .irem, n, ps, z) :: K, L, (0, y) :: (0, x) :: S, h, cu, su) := ev_k k (by simp [jstep, jdiv, hy, hr]) (Or.inl ⟨rfl, rfl⟩)
theorem ev_ldiv {x y r : Int} (hy : y ≠ 0) (hr : w64 (x.tdiv y) = r) (k : jEv ok xl xs cd mc ms Q (K, L, (1, r) :: S, h, cu, su)) : jEv ok xl xs cd mc ms Q ((pc, .ldiv, n, ps, z) :: K, L, (1, y) :: (1, x) :: S, h, cu, su) := ev_k k (by simp [jstep, jdiv, hy, hr]) (Or.inl ⟨rfl, rfl⟩)
theorem ev_lrem {x y r : Int} (hy : y ≠ 0) (hr : x.tmod y = r) (k : jEv ok xl xs cd mc ms Q (K, L, (1, r) :: S, h, cu, su)) : jEv ok xl xs cd mc ms Q ((pc, .lrem, n, ps, z) :: K, L, (1, y) :: (1, x) :: S, h, cu, su) := ev_k k (by simp [jstep, jdiv, hy, hr]) (Or.inl ⟨rfl, rfl⟩)
theorem ev_ineg {x r : Int} (hr : w32 (-x) = r) (k : jEv ok xl xs cd mc ms Q (K, L, (0, r) :: S, h, cu, su)) : jEv ok xl xs cd mc ms Q ((pc, .ineg, n, ps, z) :: K, L, (0, x) :: S, h, cu, su) := ev_k k (by simp [jstep, jun, hr]) (Or.inl ⟨rfl, rfl⟩)
theorem ev_lneg {x r : Int} (hr : w64 (-x) = r) (k : jEv ok xl xs cd mc ms Q (K, L, (1, r) :: S, h, cu, su)) : jEv ok xl xs cd mc ms Q ((pc, .lneg, n, ps, z) :: K, L, (1, x) :: S, h, cu, su) := ev_k k (by simp [jstep, jun, hr]) (Or.inl ⟨rfl, rfl⟩)
theorem ev_l2i {x r : Int} (hr : w32 x = r) (k : jEv ok xl xs cd mc ms Q (K, L, (0, r) :: S, h, cu, su)) : jEv ok xl xs cd mc ms Q ((pc, .l2i, n, ps, z) :: K, L, (1, x) :: S, h, cu, su) := ev_k k (by simp [jstep, jun, hr]) (Or.inl ⟨rfl, rfl⟩)
theorem ev_i2b {x r : Int} (hr : w8 x = r) (k : jEv ok xl xs cd mc ms Q (K, L, (0, r) :: S, h, cu, su)) : jEv ok xl xs cd mc ms Q ((pc, .i2b, n, ps, z) :: K, L, (0, x) :: S, h, cu, su) := ev_k k (by simp [jstep, jun, hr]) (Or.inl ⟨rfl, rfl⟩)
theorem ev_i2s {x r : Int} (hr : w16 x = r) (k : jEv ok xl xs cd mc ms Q (K, L, (0, r) :: S, h, cu, su)) : jEv ok xl xs cd mc ms Q ((pc, .i2s, n, ps, z) :: K, L, (0, x) :: S, h, cu, su) := ev_k k (by simp [jstep, jun, hr]) (Or.inl ⟨rfl, rfl⟩)
theorem ev_i2l {x : Int} (k : jEv ok xl xs cd mc ms Q (K, L, (1, x) :: S, h, cu, su)) : jEv ok xl xs cd mc ms Q ((pc, .i2l, n, ps, z) :: K, L, (0, x) :: S, h, cu, su) := ev_k k (by simp [jstep, jun]) (Or.inl ⟨rfl, rfl⟩)
theorem ev_goto {off : Int} {t : Nat} {ps : List Nat} (hf : jfind cd t = some K') (k : jEv ok xl xs cd mc ms Q (K', L, S, h, cu, su)) : jEv ok xl xs cd mc ms Q ((pc, .goto off, n, t :: ps, z) :: K, L, S, h, cu, su) := ev_k k (by simp [jstep, jgo, jhd, hf]) (Or.inl ⟨rfl, rfl⟩)
theorem ev_ifeq {off x : Int} {t : Nat} {ps : List Nat} (hf : jfind cd t = some K') (kt : x = 0 → jEv ok xl xs cd mc ms Q (K', L, S, h, cu, su)) (kf : ¬ (x = 0) → jEv ok xl xs cd mc ms Q (K, L, S, h, cu, su)) : jEv ok xl xs cd mc ms Q ((pc, .ifCond .eq off, n, t :: ps, z) :: K, L, (0, x) :: S, h, cu, su) := by
  by_cases e : x = 0
  · exact ev_k (kt e) (by simp [jstep, jif, jcnd, jgo, jhd, hf, e]) (Or.inl ⟨rfl, rfl⟩)
  · exact ev_k (kf e) (by simp [jstep, jif, jcnd, jgo, jhd, hf, e]) (Or.inl ⟨rfl, rfl⟩)
theorem ev_ifne {off x : Int} {t : Nat} {ps : List Nat} (hf : jfind cd t = some K') (kt : x ≠ 0 → jEv ok xl xs cd mc ms Q (K', L, S, h, cu, su)) (kf : ¬ (x ≠ 0) → jEv ok xl xs cd mc ms Q (K, L, S, h, cu, su)) : jEv ok xl xs cd mc ms Q ((pc, .ifCond .ne off, n, t :: ps, z) :: K, L, (0, x) :: S, h, cu, su) := by
  by_cases e : x ≠ 0
  · exact ev_k (kt e) (by simp [jstep, jif, jcnd, jgo, jhd, hf, e]) (Or.inl ⟨rfl, rfl⟩)
  · exact ev_k (kf e) (by simp [jstep, jif, jcnd, jgo, jhd, hf, e]) (Or.inl ⟨rfl, rfl⟩)
theorem ev_iflt {off x : Int} {t : Nat} {ps : List Nat} (hf : jfind cd t = some K') (kt : x < 0 → jEv ok xl xs cd mc ms Q (K', L, S, h, cu, su)) (kf : ¬ (x < 0) → jEv ok xl xs cd mc ms Q (K, L, S, h, cu, su)) : jEv ok xl xs cd mc ms Q ((pc, .ifCond .lt off, n, t :: ps, z) :: K, L, (0, x) :: S, h, cu, su) := by
  by_cases e : x < 0
  · exact ev_k (kt e) (by simp [jstep, jif, jcnd, jgo, jhd, hf, e]) (Or.inl ⟨rfl, rfl⟩)
  · exact ev_k (kf e) (by simp [jstep, jif, jcnd, jgo, jhd, hf, e]) (Or.inl ⟨rfl, rfl⟩)
theorem ev_ifge {off x : Int} {t : Nat} {ps : List Nat} (hf : jfind cd t = some K') (kt : 0 ≤ x → jEv ok xl xs cd mc ms Q (K', L, S, h, cu, su)) (kf : ¬ (0 ≤ x) → jEv ok xl xs cd mc ms Q (K, L, S, h, cu, su)) : jEv ok xl xs cd mc ms Q ((pc, .ifCond .ge off, n, t :: ps, z) :: K, L, (0, x) :: S, h, cu, su) := by
  by_cases e : 0 ≤ x
  · exact ev_k (kt e) (by simp [jstep, jif, jcnd, jgo, jhd, hf, e]) (Or.inl ⟨rfl, rfl⟩)
  · exact ev_k (kf e) (by simp [jstep, jif, jcnd, jgo, jhd, hf, e]) (Or.inl ⟨rfl, rfl⟩)
theorem ev_ifgt {off x : Int} {t : Nat} {ps : List Nat} (hf : jfind cd t = some K') (kt : 0 < x → jEv ok xl xs cd mc ms Q (K', L, S, h, cu, su)) (kf : ¬ (0 < x) → jEv ok xl xs cd mc ms Q (K, L, S, h, cu, su)) : jEv ok xl xs cd mc ms Q ((pc, .ifCond .gt off, n, t :: ps, z) :: K, L, (0, x) :: S, h, cu, su) := by
  by_cases e : 0 < x
  · exact ev_k (kt e) (by simp [jstep, jif, jcnd, jgo, jhd, hf, e]) (Or.inl ⟨rfl, rfl⟩)
  · exact ev_k (kf e) (by simp [jstep, jif, jcnd, jgo, jhd, hf, e]) (Or.inl ⟨rfl, rfl⟩)
theorem ev_ifle {off x : Int} {t : Nat} {ps : List Nat} (hf : jfind cd t = some K') (kt : x ≤ 0 → jEv ok xl xs cd mc ms Q (K', L, S, h, cu, su)) (kf : ¬ (x ≤ 0) → jEv ok xl xs cd mc ms Q (K, L, S, h, cu, su)) : jEv ok xl xs cd mc ms Q ((pc, .ifCond .le off, n, t :: ps, z) :: K, L, (0, x) :: S, h, cu, su) := by
  by_cases e : x ≤ 0
  · exact ev_k (kt e) (by simp [jstep, jif, jcnd, jgo, jhd, hf, e]) (Or.inl ⟨rfl, rfl⟩)
  · exact ev_k (kf e) (by simp [jstep, jif, jcnd, jgo, jhd, hf, e]) (Or.inl ⟨rfl, rfl⟩)
theorem ev_icmpeq {off x y : Int} {t : Nat} {ps : List Nat} (hf : jfind cd t = some K') (kt : x = y → jEv ok xl xs cd mc ms Q (K', L, S, h, cu, su)) (kf : ¬ (x = y) → jEv ok xl xs cd mc ms Q (K, L, S, h, cu, su)) : jEv ok xl xs cd mc ms Q ((pc, .if_icmp .eq off, n, t :: ps, z) :: K, L, (0, y) :: (0, x) :: S, h, cu, su) := by
  by_cases e : x = y
  · exact ev_k (kt e) (by simp [jstep, jicmp, jcnd, jgo, jhd, hf, e]) (Or.inl ⟨rfl, rfl⟩)
  · exact ev_k (kf e) (by simp [jstep, jicmp, jcnd, jgo, jhd, hf, e]) (Or.inl ⟨rfl, rfl⟩)
theorem ev_icmpne {off x y : Int} {t : Nat} {ps : List Nat} (hf : jfind cd t = some K') (kt : x ≠ y → jEv ok xl xs cd mc ms Q (K', L, S, h, cu, su)) (kf : ¬ (x ≠ y) → jEv ok xl xs cd mc ms Q (K, L, S, h, cu, su)) : jEv ok xl xs cd mc ms Q ((pc, .if_icmp .ne off, n, t :: ps, z) :: K, L, (0, y) :: (0, x) :: S, h, cu, su) := by
  by_cases e : x ≠ y
  · exact ev_k (kt e) (by simp [jstep, jicmp, jcnd, jgo, jhd, hf, e]) (Or.inl ⟨rfl, rfl⟩)
  · exact ev_k (kf e) (by simp [jstep, jicmp, jcnd, jgo, jhd, hf, e]) (Or.inl ⟨rfl, rfl⟩)
theorem ev_icmplt {off x y : Int} {t : Nat} {ps : List Nat} (hf : jfind cd t = some K') (kt : x < y → jEv ok xl xs cd mc ms Q (K', L, S, h, cu, su)) (kf : ¬ (x < y) → jEv ok xl xs cd mc ms Q (K, L, S, h, cu, su)) : jEv ok xl xs cd mc ms Q ((pc, .if_icmp .lt off, n, t :: ps, z) :: K, L, (0, y) :: (0, x) :: S, h, cu, su) := by
  by_cases e : x < y
  · exact ev_k (kt e) (by simp [jstep, jicmp, jcnd, jgo, jhd, hf, e]) (Or.inl ⟨rfl, rfl⟩)
  · exact ev_k (kf e) (by simp [jstep, jicmp, jcnd, jgo, jhd, hf, e]) (Or.inl ⟨rfl, rfl⟩)
theorem ev_icmpge {off x y : Int} {t : Nat} {ps : List Nat} (hf : jfind cd t = some K') (kt : y ≤ x → jEv ok xl xs cd mc ms Q (K', L, S, h, cu, su)) (kf : ¬ (y ≤ x) → jEv ok xl xs cd mc ms Q (K, L, S, h, cu, su)) : jEv ok xl xs cd mc ms Q ((pc, .if_icmp .ge off, n, t :: ps, z) :: K, L, (0, y) :: (0, x) :: S, h, cu, su) := by
  by_cases e : y ≤ x
  · exact ev_k (kt e) (by simp [jstep, jicmp, jcnd, jgo, jhd, hf, e]) (Or.inl ⟨rfl, rfl⟩)
  · exact ev_k (kf e) (by simp [jstep, jicmp, jcnd, jgo, jhd, hf, e]) (Or.inl ⟨rfl, rfl⟩)
theorem ev_icmpgt {off x y : Int} {t : Nat} {ps : List Nat} (hf : jfind cd t = some K') (kt : y < x → jEv ok xl xs cd mc ms Q (K', L, S, h, cu, su)) (kf : ¬ (y < x) → jEv ok xl xs cd mc ms Q (K, L, S, h, cu, su)) : jEv ok xl xs cd mc ms Q ((pc, .if_icmp .gt off, n, t :: ps, z) :: K, L, (0, y) :: (0, x) :: S, h, cu, su) := by
  by_cases e : y < x
  · exact ev_k (kt e) (by simp [jstep, jicmp, jcnd, jgo, jhd, hf, e]) (Or.inl ⟨rfl, rfl⟩)
  · exact ev_k (kf e) (by simp [jstep, jicmp, jcnd, jgo, jhd, hf, e]) (Or.inl ⟨rfl, rfl⟩)
theorem ev_icmple {off x y : Int} {t : Nat} {ps : List Nat} (hf : jfind cd t = some K') (kt : x ≤ y → jEv ok xl xs cd mc ms Q (K', L, S, h, cu, su)) (kf : ¬ (x ≤ y) → jEv ok xl xs cd mc ms Q (K, L, S, h, cu, su)) : jEv ok xl xs cd mc ms Q ((pc, .if_icmp .le off, n, t :: ps, z) :: K, L, (0, y) :: (0, x) :: S, h, cu, su) := by
  by_cases e : x ≤ y
  · exact ev_k (kt e) (by simp [jstep, jicmp, jcnd, jgo, jhd, hf, e]) (Or.inl ⟨rfl, rfl⟩)
  · exact ev_k (kf e) (by simp [jstep, jicmp, jcnd, jgo, jhd, hf, e]) (Or.inl ⟨rfl, rfl⟩)
theorem ev_ifnull {off x : Int} {t : Nat} {ps : List Nat} (hf : jfind cd t = some K') (kt : x = -1 → jEv ok xl xs cd mc ms Q (K', L, S, h, cu, su)) (kf : ¬ x = -1 → jEv ok xl xs cd mc ms Q (K, L, S, h, cu, su)) : jEv ok xl xs cd mc ms Q ((pc, .ifnull off, n, t :: ps, z) :: K, L, (2, x) :: S, h, cu, su) := by
  by_cases e : x = -1
  · exact ev_k (kt e) (by simp [jstep, jnul, jgo, jhd, hf, e]) (Or.inl ⟨rfl, rfl⟩)
  · exact ev_k (kf e) (by simp [jstep, jnul, jgo, jhd, hf, e]) (Or.inl ⟨rfl, rfl⟩)
theorem ev_ifnonnull {off x : Int} {t : Nat} {ps : List Nat} (hf : jfind cd t = some K') (kt : ¬ x = -1 → jEv ok xl xs cd mc ms Q (K', L, S, h, cu, su)) (kf : x = -1 → jEv ok xl xs cd mc ms Q (K, L, S, h, cu, su)) : jEv ok xl xs cd mc ms Q ((pc, .ifnonnull off, n, t :: ps, z) :: K, L, (2, x) :: S, h, cu, su) := by
  by_cases e : x = -1
  · exact ev_k (kf e) (by simp [jstep, jnul, jgo, jhd, hf, e]) (Or.inl ⟨rfl, rfl⟩)
  · exact ev_k (kt e) (by simp [jstep, jnul, jgo, jhd, hf, e]) (Or.inl ⟨rfl, rfl⟩)
theorem ev_sw {d lo hi x : Int} {offs : Array Int} {t : Nat} (ht : ps[if x < lo ∨ hi < x then 0 else (x - lo).toNat + 1]? = some t) (hf : jfind cd t = some K') (k : jEv ok xl xs cd mc ms Q (K', L, S, h, cu, su)) : jEv ok xl xs cd mc ms Q ((pc, .tableswitch d lo hi offs, n, ps, z) :: K, L, (0, x) :: S, h, cu, su) := ev_k k (by simp only [jstep, jsw, ht, jgo, hf, if_true]) (Or.inl ⟨rfl, rfl⟩)
theorem ev_getf {x f k j1 j2 r t : Nat} {v : Int} (h1 : r < h.1) (h2 : jfam f (h.2.1 r).1 = true) (ht : jsk (jfty f k) = t) (hv : h.2.2 r k = v) (kk : jEv ok xl xs cd mc ms Q (K, L, (t, v) :: S, h, cu, su)) : jEv ok xl xs cd mc ms Q ((pc, .getfield x, n, [f, k, j1, j2], z) :: K, L, (2, (r : Int)) :: S, h, cu, su) := ev_k kk (by
  have e1 : ((r : Int)).toNat = r := by omega
  have e2 : (0 : Int) ≤ (r : Int) := by omega
  simp [jstep, jgetf, h1, h2, ht, hv]) (Or.inl ⟨rfl, rfl⟩)
theorem ev_putf {x f k j1 j2 r t : Nat} {v : Int} (h1 : r < h.1) (h2 : jfam f (h.2.1 r).1 = true) (ht : jsk (jfty f k) = t) (hz : jfty f k = 3 → v = 0 ∨ v = 1) (hr : t = 2 → v ≠ -2) (kk : jEv ok xl xs cd mc ms Q (K, L, S, jwr h r k v, cu, su)) : jEv ok xl xs cd mc ms Q ((pc, .putfield x, n, [f, k, j1, j2], z) :: K, L, (t, v) :: (2, (r : Int)) :: S, h, cu, su) := ev_k kk (by
  have e1 : ((r : Int)).toNat = r := by omega
  have e2 : (0 : Int) ≤ (r : Int) := by omega
  simp only [jstep, jputf, List.getD_cons_zero, List.getD_cons_succ, e1, e2, h1, h2, ht, true_and]
  rw [if_pos ⟨hz, hr⟩]) (Or.inl ⟨rfl, rfl⟩)
theorem ev_iald {i v : Int} {r j : Nat} (h1 : r < h.1) (ht : (h.2.1 r).1 = 20) (hi : i = (j : Int)) (hj : j < (h.2.1 r).2) (hv : h.2.2 r j = v) (kk : jEv ok xl xs cd mc ms Q (K, L, (0, v) :: S, h, cu, su)) : jEv ok xl xs cd mc ms Q ((pc, .iaload, n, ps, z) :: K, L, (0, i) :: (2, (r : Int)) :: S, h, cu, su) := ev_k kk (by
  subst hi
  have e3 : ¬ ((r : Int) = -2) := by omega
  simp [jstep, jald, h1, ht, hj, hv, e3, jak]) (Or.inl ⟨rfl, rfl⟩)
theorem ev_sald {i v : Int} {j : Nat} (hi : i = (j : Int)) (hj : jxin xl j = true) (hv : xs j = v) (kk : jEv ok xl xs cd mc ms Q (K, L, (0, v) :: S, h, cu, su)) : jEv ok xl xs cd mc ms Q ((pc, .iaload, n, ps, z) :: K, L, (0, i) :: (2, -2) :: S, h, cu, su) := ev_k kk (by
  subst hi
  simp [jstep, jald, hj, hv]) (Or.inl ⟨rfl, rfl⟩)
theorem ev_lald {i v : Int} {r j : Nat} (h1 : r < h.1) (ht : (h.2.1 r).1 = 21) (hi : i = (j : Int)) (hj : j < (h.2.1 r).2) (hv : h.2.2 r j = v) (kk : jEv ok xl xs cd mc ms Q (K, L, (1, v) :: S, h, cu, su)) : jEv ok xl xs cd mc ms Q ((pc, .laload, n, ps, z) :: K, L, (0, i) :: (2, (r : Int)) :: S, h, cu, su) := ev_k kk (by
  subst hi
  have e3 : ¬ ((r : Int) = -2) := by omega
  simp [jstep, jald, h1, ht, hj, hv, e3, jak]) (Or.inl ⟨rfl, rfl⟩)
theorem ev_bald {i v : Int} {r j t : Nat} (h1 : r < h.1) (ht : (h.2.1 r).1 = t) (ht2 : t = 22 ∨ t = 23) (hi : i = (j : Int)) (hj : j < (h.2.1 r).2) (hv : h.2.2 r j = v) (kk : jEv ok xl xs cd mc ms Q (K, L, (0, v) :: S, h, cu, su)) : jEv ok xl xs cd mc ms Q ((pc, .baload, n, [t], z) :: K, L, (0, i) :: (2, (r : Int)) :: S, h, cu, su) := ev_k kk (by
  subst hi
  have e3 : ¬ ((r : Int) = -2) := by omega
  have e4 : jak t = 0 := by rcases ht2 with e | e <;> subst e <;> rfl
  simp [jstep, jald, jhd, h1, ht, hj, hv, e3, e4]) (Or.inl ⟨rfl, rfl⟩)
theorem ev_aald {i v : Int} {r j t : Nat} (h1 : r < h.1) (ht : (h.2.1 r).1 = t) (ht2 : t = 24 ∨ t = 25) (hi : i = (j : Int)) (hj : j < (h.2.1 r).2) (hv : h.2.2 r j = v) (kk : jEv ok xl xs cd mc ms Q (K, L, (2, v) :: S, h, cu, su)) : jEv ok xl xs cd mc ms Q ((pc, .aaload, n, [t], z) :: K, L, (0, i) :: (2, (r : Int)) :: S, h, cu, su) := ev_k kk (by
  subst hi
  have e3 : ¬ ((r : Int) = -2) := by omega
  have e4 : jak t = 2 := by rcases ht2 with e | e <;> subst e <;> rfl
  simp [jstep, jald, jhd, h1, ht, hj, hv, e3, e4]) (Or.inl ⟨rfl, rfl⟩)
theorem ev_iast {i v : Int} {r j : Nat} (h1 : r < h.1) (ht : (h.2.1 r).1 = 20) (hi : i = (j : Int)) (hj : j < (h.2.1 r).2) (kk : jEv ok xl xs cd mc ms Q (K, L, S, jwr h r j v, cu, su)) : jEv ok xl xs cd mc ms Q ((pc, .iastore, n, ps, z) :: K, L, (0, v) :: (0, i) :: (2, (r : Int)) :: S, h, cu, su) := ev_k kk (by
  subst hi
  simp [jstep, jast, h1, ht, hj, jak]) (Or.inl ⟨rfl, rfl⟩)
theorem ev_last {i v : Int} {r j : Nat} (h1 : r < h.1) (ht : (h.2.1 r).1 = 21) (hi : i = (j : Int)) (hj : j < (h.2.1 r).2) (kk : jEv ok xl xs cd mc ms Q (K, L, S, jwr h r j v, cu, su)) : jEv ok xl xs cd mc ms Q ((pc, .lastore, n, ps, z) :: K, L, (1, v) :: (0, i) :: (2, (r : Int)) :: S, h, cu, su) := ev_k kk (by
  subst hi
  simp [jstep, jast, h1, ht, hj, jak]) (Or.inl ⟨rfl, rfl⟩)
theorem ev_bast {i v w : Int} {r j : Nat} (h1 : r < h.1) (ht : (h.2.1 r).1 = 22) (hi : i = (j : Int)) (hj : j < (h.2.1 r).2) (hw : w8 v = w) (kk : jEv ok xl xs cd mc ms Q (K, L, S, jwr h r j w, cu, su)) : jEv ok xl xs cd mc ms Q ((pc, .bastore, n, [22], z) :: K, L, (0, v) :: (0, i) :: (2, (r : Int)) :: S, h, cu, su) := ev_k kk (by
  subst hi
  simp [jstep, jast, jhd, h1, ht, hj, hw, jak]) (Or.inl ⟨rfl, rfl⟩)
theorem ev_zast {i v : Int} {r j : Nat} (h1 : r < h.1) (ht : (h.2.1 r).1 = 23) (hi : i = (j : Int)) (hj : j < (h.2.1 r).2) (kk : jEv ok xl xs cd mc ms Q (K, L, S, jwr h r j (v % 2), cu, su)) : jEv ok xl xs cd mc ms Q ((pc, .bastore, n, [23], z) :: K, L, (0, v) :: (0, i) :: (2, (r : Int)) :: S, h, cu, su) := ev_k kk (by
  subst hi
  simp [jstep, jast, jhd, h1, ht, hj, jak]) (Or.inl ⟨rfl, rfl⟩)
theorem ev_asto {i : Int} {r j v t f : Nat} (h1 : r < h.1) (ht : (h.2.1 r).1 = t) (hi : i = (j : Int)) (hj : j < (h.2.1 r).2) (h2 : v < h.1) (h3 : jfam f (h.2.1 v).1 = true) (kk : jEv ok xl xs cd mc ms Q (K, L, S, jwr h r j v, cu, su)) : jEv ok xl xs cd mc ms Q ((pc, .aastore, n, [t, f], z) :: K, L, (2, (v : Int)) :: (0, i) :: (2, (r : Int)) :: S, h, cu, su) := ev_k kk (by
  subst hi
  simp [jstep, jasto, h1, ht, hj, h2, h3]) (Or.inl ⟨rfl, rfl⟩)
theorem ev_aln {r m : Nat} (h1 : r < h.1) (h2 : 20 ≤ (h.2.1 r).1) (h3 : (h.2.1 r).1 ≤ 25) (hm : (h.2.1 r).2 = m) (h4 : m < 2147483648) (kk : jEv ok xl xs cd mc ms Q (K, L, (0, (m : Int)) :: S, h, cu, su)) : jEv ok xl xs cd mc ms Q ((pc, .arraylength, n, ps, z) :: K, L, (2, (r : Int)) :: S, h, cu, su) := ev_k kk (by
  have e3 : ¬ ((r : Int) = -2) := by omega
  simp [jstep, jaln, h1, h2, h3, h4, hm, e3]) (Or.inl ⟨rfl, rfl⟩)
theorem ev_saln {m : Nat} (hm : xl = some m) (kk : jEv ok xl xs cd mc ms Q (K, L, (0, (m : Int)) :: S, h, cu, su)) : jEv ok xl xs cd mc ms Q ((pc, .arraylength, n, ps, z) :: K, L, (2, -2) :: S, h, cu, su) := ev_k kk (by
  subst hm
  simp [jstep, jaln]) (Or.inl ⟨rfl, rfl⟩)
theorem ev_new {x c m : Nat} {ps : List Nat} (hN : jN c = m) (h1 : cu + 1 ≤ mc) (h2 : su + m ≤ ms) (kk : jEv ok xl xs cd mc ms Q (K, L, (2, (h.1 : Int)) :: S, jnew h c m, cu + 1, su + m)) : jEv ok xl xs cd mc ms Q ((pc, .new x, n, c :: ps, z) :: K, L, S, h, cu, su) := ev_k kk (by
  simp [jstep, jnewo, jhd, hN]) (Or.inr ⟨h1, h2⟩)
theorem ev_newa {a : ArrayType} {t m : Nat} {v : Int} (ha : jat a = t) (hv : v = (m : Int)) (hm : m < 60000) (h1 : cu + 1 ≤ mc) (h2 : su + m ≤ ms) (kk : jEv ok xl xs cd mc ms Q (K, L, (2, (h.1 : Int)) :: S, jnew h t m, cu + 1, su + m)) : jEv ok xl xs cd mc ms Q ((pc, .newarray a, n, ps, z) :: K, L, (0, v) :: S, h, cu, su) := ev_k kk (by
  subst hv
  have e1 : (m : Int) < 60000 := by omega
  simp [jstep, jnewa, ha, e1]) (Or.inr ⟨h1, h2⟩)
theorem ev_anew {x t m : Nat} {v : Int} {ps : List Nat} (hv : v = (m : Int)) (hm : m < 60000) (h1 : cu + 1 ≤ mc) (h2 : su + m ≤ ms) (kk : jEv ok xl xs cd mc ms Q (K, L, (2, (h.1 : Int)) :: S, jnew h t m, cu + 1, su + m)) : jEv ok xl xs cd mc ms Q ((pc, .anewarray x, n, t :: ps, z) :: K, L, (0, v) :: S, h, cu, su) := ev_k kk (by
  subst hv
  have e1 : (m : Int) < 60000 := by omega
  simp [jstep, jnewa, jhd, e1]) (Or.inr ⟨h1, h2⟩)
theorem ev_obji {x r : Nat} {ps : List Nat} (hw : jwid S ≤ 8) (kk : jEv ok xl xs cd mc ms Q (K, L, S, h, cu, su)) : jEv ok xl xs cd mc ms Q ((pc, .invokespecial x, n, 6 :: ps, z) :: K, L, (2, (r : Int)) :: S, h, cu, su) := ev_k kk (by
  simp only [jwid] at hw
  simp [jstep, jobji, jhd, hw]) (Or.inl ⟨rfl, rfl⟩)
end JEv
theorem jOk_up : ∀ (d a b k : Nat) (as : List AV) (h : JH) (Q : Option AV → JH → Prop), jOk d a b k as h Q → jOk (d + 1) a b k as h Q := by
  intro d
  induction d with
  | zero => intro a b k as h Q e; exact e.elim
  | succ d ih => intro a b k as h Q e; exact ⟨e.1, e.2.1, jev_mono ih (fun _ _ q => q) e.2.2⟩
theorem jOk_le {d d' a b k : Nat} {as : List AV} {h : JH} {Q : Option AV → JH → Prop} (hd : d ≤ d') (e : jOk d a b k as h Q) : jOk d' a b k as h Q := by
  induction hd with
  | refl => exact e
  | step _ ih => exact jOk_up _ _ _ _ _ _ _ ih
theorem jOk_post {d a b k : Nat} {as : List AV} {h : JH} {Q Q' : Option AV → JH → Prop} (hQ : ∀ v h, Q v h → Q' v h) (e : jOk d a b k as h Q) : jOk d a b k as h Q' := by
  cases d with
  | zero => exact e.elim
  | succ d => exact ⟨e.1, e.2.1, jev_mono (fun _ _ _ _ _ _ q => q) hQ e.2.2⟩

theorem jcall_s {pc x n na k r : Nat} {z : Int} {ps : List Nat} {K : List JE} {A S' : List AV} {h : JH} (hk : r = 0 ∨ r = 2) (hA : A.length = na) (hw : jwid S' ≤ 8) : jcall ((pc, .invokestatic x, n, r :: na :: k :: ps, z) :: K) (A ++ S') h = some (k, A.reverse, S') := by
  subst hA
  simp [jcall, jhd, hk, hw]
theorem jcall_i {pc x n na k c r : Nat} {z : Int} {ps : List Nat} {K : List JE} {A S' : List AV} {h : JH} (hk : c = 1 ∨ c = 3) (hA : A.length = na) (hw : jwid S' ≤ 8) : jcall ((pc, .invokespecial x, n, c :: na :: k :: ps, z) :: K) (A ++ (2, (r : Int)) :: S') h = some (k, (2, (r : Int)) :: A.reverse, S') := by
  subst hA
  simp [jcall, jhd, hk, hw]
theorem jcall_v {pc x n na k t r : Nat} {z : Int} {ps : List Nat} {K : List JE} {A S' : List AV} {h : JH} (hA : A.length = na) (h1 : r < h.1) (h2 : (h.2.1 r).1 = t) (hw : jwid S' ≤ 8) : jcall ((pc, .invokevirtual x, n, 5 :: na :: k :: t :: ps, z) :: K) (A ++ (2, (r : Int)) :: S') h = some (k, (2, (r : Int)) :: A.reverse, S') := by
  subst hA
  simp [jcall, jhd, hw, h1, h2]
/-- a callee is gone through on the spot -/
theorem ev_in {xl : Option Nat} {xs : Nat → Int} {cd cd' K : List JE} {mc ms cu su d k m a b : Nat} {Q : Option AV → JH → Prop} {L S as S' L0 : List AV} {h : JH} (e : jcall K S h = some (k, as, S')) (hk : k < jnM) (hM : jML k = m) (hP : jP k = cd') (hm : (jexp as).length ≤ m) (hE : jentry as m = L0) (h1 : cu + a ≤ mc) (h2 : su + b ≤ ms)
    (kk : jEv (jOk d) none (fun _ => 0) cd' a b (fun v h' => jEv (jOk (d + 1)) xl xs cd mc ms Q (K.tail, L, v.toList ++ S', h', cu + a, su + b)) (cd', L0, [], h, 0, 0)) : jEv (jOk (d + 1)) xl xs cd mc ms Q (K, L, S, h, cu, su) := by
  refine ev_call e (a := a) (b := b) ⟨hk, by rw [hM]; exact hm, ?_⟩ h1 h2 (fun v h' q => q)
  rw [hM, hP, hE]
  exact kk
end
section
/-! closed runs, by evaluation -/
/-- the simple machine, run: d calls deep at most, f steps at most -/
def xrun : Nat → Nat → List JE → JS → Option (Option AV × JH × Nat × Nat)
  | 0, _, _, _ => none
  | f + 1, d, cd, st => match jret st.1 st.2.2.1 with
    | some v => some (v, st.2.2.2.1, st.2.2.2.2.1, st.2.2.2.2.2)
    | none => (match jcall st.1 st.2.2.1 st.2.2.2.1 with
      | some q => (match d with
        | 0 => none
        | d' + 1 => if q.1 < jnM ∧ (jexp q.2.1).length ≤ jML q.1 then (match xrun f d' (jP q.1) (jP q.1, jentry q.2.1 (jML q.1), [], st.2.2.2.1, 0, 0) with
          | some r => xrun f (d' + 1) cd (st.1.tail, st.2.1, r.1.toList ++ q.2.2, r.2.1, st.2.2.2.2.1 + r.2.2.1, st.2.2.2.2.2 + r.2.2.2)
          | none => none) else none)
      | none => (match jstep none (fun _ => 0) cd st with
        | some st' => xrun f d cd st'
        | none => none))
theorem jstep_up {xl : Option Nat} {xs : Nat → Int} {cd : List JE} {st st' : JS} (e : jstep xl xs cd st = some st') : st.2.2.2.2.1 ≤ st'.2.2.2.2.1 ∧ st.2.2.2.2.2 ≤ st'.2.2.2.2.2 := by
  obtain ⟨K0, L, S, h, cu, su⟩ := st
  match K0, e with
  | [], e => cases e
  | (pc, i, n, ps, z) :: K, e =>
    simp only [jstep] at e
    have go : ∀ {t : Nat} {S' : List AV}, jgo L h cu su cd t S' = some st' → cu ≤ st'.2.2.2.2.1 ∧ su ≤ st'.2.2.2.2.2 := by
      intro t S' hg
      obtain ⟨K', -, rfl⟩ := jgo_inv hg
      exact ⟨Nat.le_refl _, Nat.le_refl _⟩
    cases i
    case bastore =>
      dsimp only at e ⊢
      split at e
      · obtain ⟨_, _, _, _, _, _, _, _, _, _, rfl⟩ := jast_inv e
        exact ⟨Nat.le_refl _, Nat.le_refl _⟩
      · split at e
        · obtain ⟨_, _, _, _, _, _, _, _, _, _, rfl⟩ := jast_inv e
          exact ⟨Nat.le_refl _, Nat.le_refl _⟩
        · cases e
    case invokespecial x =>
      dsimp only at e ⊢
      split at e
      · obtain ⟨_, _, _, _, _, rfl⟩ := jobji_inv e
        exact ⟨Nat.le_refl _, Nat.le_refl _⟩
      · cases e
    case ifnull off =>
      dsimp only at e ⊢
      obtain ⟨w, _, _, g1, g2⟩ := jnul_inv e
      by_cases hq : decide (w = -1) = true
      · exact go (g1 hq)
      · cases g2 hq
        exact ⟨Nat.le_refl _, Nat.le_refl _⟩
    case ifnonnull off =>
      dsimp only at e ⊢
      obtain ⟨w, _, _, g1, g2⟩ := jnul_inv e
      by_cases hq : decide (w = -1) = false
      · exact go (g1 hq)
      · cases g2 hq
        exact ⟨Nat.le_refl _, Nat.le_refl _⟩
    case getfield x =>
      dsimp only at e ⊢
      obtain ⟨_, _, _, _, _, _, rfl⟩ := jgetf_inv e
      exact ⟨Nat.le_refl _, Nat.le_refl _⟩
    all_goals dsimp only at e ⊢
    all_goals first
      | (cases e; done)
      | (cases e; exact ⟨Nat.le_refl _, Nat.le_refl _⟩)
      | (cases e; exact ⟨Nat.le_add_right _ _, Nat.le_add_right _ _⟩)
      | (obtain ⟨_, _, rfl⟩ := jld_inv e; exact ⟨Nat.le_refl _, Nat.le_refl _⟩)
      | (obtain ⟨_, _, _, _, rfl⟩ := jst_inv e; exact ⟨Nat.le_refl _, Nat.le_refl _⟩)
      | (obtain ⟨_, _, _, _, rfl⟩ := jst2_inv e; exact ⟨Nat.le_refl _, Nat.le_refl _⟩)
      | (obtain ⟨_, _, rfl⟩ := jinc_inv e; exact ⟨Nat.le_refl _, Nat.le_refl _⟩)
      | (obtain ⟨_, _, _, rfl⟩ := jun_inv e; exact ⟨Nat.le_refl _, Nat.le_refl _⟩)
      | (obtain ⟨_, _, _, _, rfl⟩ := jbin_inv e; exact ⟨Nat.le_refl _, Nat.le_refl _⟩)
      | (obtain ⟨_, _, _, _, _, rfl⟩ := jdiv_inv e; exact ⟨Nat.le_refl _, Nat.le_refl _⟩)
      | exact go e
      | (obtain ⟨_, _, _, _, _, rfl⟩ := jgetf_inv e; exact ⟨Nat.le_refl _, Nat.le_refl _⟩)
      | (obtain ⟨_, _, _, _, _, _, _, _, _, rfl⟩ := jputf_inv e; exact ⟨Nat.le_refl _, Nat.le_refl _⟩)
      | (obtain ⟨_, _, _, _, hh⟩ := jald_inv e
         rcases hh with ⟨_, _, _, _, rfl⟩ | ⟨_, _, _, _, _, rfl⟩ <;> exact ⟨Nat.le_refl _, Nat.le_refl _⟩)
      | (obtain ⟨_, _, _, _, _, _, _, _, _, _, rfl⟩ := jast_inv e; exact ⟨Nat.le_refl _, Nat.le_refl _⟩)
      | (obtain ⟨_, _, _, _, _, _, _, _, _, _, _, _, _, rfl⟩ := jasto_inv e; exact ⟨Nat.le_refl _, Nat.le_refl _⟩)
      | (obtain ⟨_, _, _, hh⟩ := jaln_inv e
         rcases hh with ⟨_, _, _, rfl⟩ | ⟨_, _, _, _, rfl⟩ <;> exact ⟨Nat.le_refl _, Nat.le_refl _⟩)
      | (obtain ⟨_, _, _, _, _, rfl⟩ := jnewa_inv e; exact ⟨Nat.le_add_right _ _, Nat.le_add_right _ _⟩)
      | (obtain ⟨_, _, _, _, rfl⟩ := jpop_inv e; exact ⟨Nat.le_refl _, Nat.le_refl _⟩)
      | (obtain ⟨_, _, _, _, rfl⟩ := jdup_inv e; exact ⟨Nat.le_refl _, Nat.le_refl _⟩)
      | (rcases jdup2_inv e with ⟨_, _, _, _, rfl⟩ | ⟨_, _, _, _, _, _, rfl⟩ <;> exact ⟨Nat.le_refl _, Nat.le_refl _⟩)
      | (obtain ⟨_, _, _, g1, g2⟩ := jif_inv e
         cases hq : jcnd _ _ _ with
         | true => exact go (g1 hq)
         | false => cases g2 hq; exact ⟨Nat.le_refl _, Nat.le_refl _⟩)
      | (obtain ⟨_, _, _, _, g1, g2⟩ := jicmp_inv e
         cases hq : jcnd _ _ _ with
         | true => exact go (g1 hq)
         | false => cases g2 hq; exact ⟨Nat.le_refl _, Nat.le_refl _⟩)
      | (obtain ⟨_, _, _, _, _, hg⟩ := jsw_inv e; exact go hg)
theorem xrun_up : ∀ (f d : Nat) (cd : List JE) (st : JS) (r : Option AV × JH × Nat × Nat), xrun f d cd st = some r → st.2.2.2.2.1 ≤ r.2.2.1 ∧ st.2.2.2.2.2 ≤ r.2.2.2 := by
  intro f
  induction f with
  | zero => intro d cd st r e; cases e
  | succ f ih =>
    intro d cd st r e
    unfold xrun at e
    split at e
    · cases e
      exact ⟨Nat.le_refl _, Nat.le_refl _⟩
    · split at e
      · split at e
        · cases e
        · split at e
          · split at e
            · have := ih _ _ _ _ e
              simp only at this
              omega
            · cases e
          · cases e
      · split at e
        · rename_i st' hs
          have h1 := jstep_up hs
          have h2 := ih _ _ _ _ e
          omega
        · cases e
theorem xrun_ok : ∀ (f d : Nat) (cd : List JE) (st : JS) (mc ms : Nat) (r : Option AV × JH × Nat × Nat), xrun f d cd st = some r → r.2.2.1 ≤ mc → r.2.2.2 ≤ ms → jEv (jOk d) none (fun _ => 0) cd mc ms (fun v h => v = r.1 ∧ h = r.2.1) st := by
  intro f
  induction f with
  | zero => intro d cd st mc ms r e; cases e
  | succ f ih =>
    intro d cd st mc ms r e h1 h2
    obtain ⟨K, L, S, h, cu, su⟩ := st
    unfold xrun at e
    simp only at e
    split at e
    · rename_i v hv
      cases e
      exact ev_ret hv h1 h2 ⟨rfl, rfl⟩
    · split at e
      · rename_i q hq
        split at e
        · cases e
        · rename_i d'
          split at e
          · rename_i hc
            split at e
            · rename_i r' hr
              have hup := xrun_up _ _ _ _ _ e
              simp only at hup
              refine ev_call (a := r'.2.2.1) (b := r'.2.2.2) hq ⟨hc.1, hc.2, ih d' _ _ _ _ r' hr (Nat.le_refl _) (Nat.le_refl _)⟩ (by omega) (by omega) ?_
              rintro v h' ⟨rfl, rfl⟩
              exact ih (d' + 1) cd _ mc ms r e h1 h2
            · cases e
          · cases e
      · split at e
        · rename_i st' hs
          have hup := xrun_up _ _ _ _ _ e
          exact ev_s hs (Or.inr ⟨by omega, by omega⟩) (ih d cd st' mc ms r e h1 h2)
        · cases e
end
section
/-! THE CLAIM OUT OF ONE WALK OF THE LAW'S BODY. Your part is whole_start (and what it stands on); all else here is the same for every law, but numbers. -/
def R_law : String := "SueOrSettleLaw"
def lw_P (b : Addr) (xs : List Int32) (args : Array Value) (s : State) : Prop := args = #[.ref b] ∧ s.IntsAt b xs ∧ xs.length ≤ 6 ∧ (Jvm.Cond.and given_1 narrow_1).before args s = true
def lw_Q (_ : Array Value) (s : State) (o : Outcome) (t : State) : Prop := o = .returned (some (.int 1)) ∧ Framed s o t [] 600000 7302250
def lw_Z (below : List Frame) (a : Array Value) (s : State) : State → Prop := fun t => ∃ o, t.status = .running ∧ Ended t below o ∧ lw_Q a s o t
/-- the law's own end, with 1 on the stack, nothing written that was there before, its room as the claim has it -/
theorem lw_ret {p : Program} {l : Launch} {e : Env} {s : State} {m : MethodId} {below : List Frame} {meth : Method} {c : Code} {b : Nat} (hx : p.tables.exec = Jvm.exec) (hb : c.code = code) (hr : meth.sig.returnType = ret) (hlocks : meth.locks = false) {pc : Nat} {H : Heap} {ls : Array Slot} (hdg : decode code pc = .ok (.ireturn, 1)) : W p l e room_1 s m #[Value.ref b] below meth c H [] 600000 7302250 (lw_Z below #[Value.ref b] s) (F0 m pc ls [.int 1]) := by
  intro T hT X
  obtain ⟨fs, hret, hrun, hended, hW, hframe⟩ := X.leave (v := some (.int 1)) (hlocks := hlocks) (fun h => by rw [hr] at h; cases h)
  have hmeth' : T.vm.method? m = some meth := X.method'
  refine ⟨T.setFrames fs, ?_, .returned (some (.int 1)), hrun, hended, rfl, ⟨_, rfl⟩, hW, hframe⟩
  jvm_step X.here [X.here.top, hx, hb, hdg, hmeth', hr, ret, narrow_b1]
  (try refine ⟨rfl, ?_⟩); (try refine ⟨rfl, ?_⟩)
  first | (intro acts; rw [hret _ acts rfl rfl rfl]) | rw [hret _ _ rfl rfl rfl]
  exact Steps.refl _
/-- what holds at the law's entry: the machine, the code, the tables' words (any of lw_tbl by 'hts w (by decide +kernel)'), the script of L ints xs at the cell b, what the Statement gives of the start (any of its parts by flat_of_before) -/
def lw_At (p : Program) (s : State) (m : MethodId) (meth : Method) (c : Code) (b L : Nat) (xs : Nat → Int32) : Prop :=
  p.tables.exec = Jvm.exec ∧ c.code = code ∧ meth.sig.returnType = ret ∧ c.maxLocals = 4 ∧ s.vm.findClass R_law = some m.cls ∧ (∀ w ∈ lw_tbl, w.before #[Value.ref b] s = true) ∧ va_X b L xs s s.heap ∧ b < s.heap.size ∧ meth.locks = false ∧ (Jvm.Cond.and given_1 narrow_1).before #[Value.ref b] s = true
/-- nothing made yet -/
def jh0 : JH := (0, fun _ => (0, 0), fun _ _ => 0)
theorem jnc_ok {s : State} {args : Array Value} (h : (Jvm.Cond.and given_1 narrow_1).before args s = true) : ∀ q ∈ jNC, va_Nc q.1 q.2 s := by
  have hf := flat_of_before _ h
  unfold jNC
  refine List.forall_mem_cons.mpr ⟨va_Nc.of (hf _ (by decide +kernel)), ?_⟩
  refine List.forall_mem_cons.mpr ⟨va_Nc.of (hf _ (by decide +kernel)), ?_⟩
  refine List.forall_mem_cons.mpr ⟨va_Nc.of (hf _ (by decide +kernel)), ?_⟩
  refine List.forall_mem_cons.mpr ⟨va_Nc.of (hf _ (by decide +kernel)), ?_⟩
  refine List.forall_mem_cons.mpr ⟨va_Nc.of (hf _ (by decide +kernel)), ?_⟩
  refine List.forall_mem_cons.mpr ⟨va_Nc.of (hf _ (by decide +kernel)), ?_⟩
  refine List.forall_mem_cons.mpr ⟨va_Nc.of (hf _ (by decide +kernel)), ?_⟩
  refine List.forall_mem_cons.mpr ⟨va_Nc.of (hf _ (by decide +kernel)), ?_⟩
  refine List.forall_mem_cons.mpr ⟨va_Nc.of (hf _ (by decide +kernel)), ?_⟩
  refine List.forall_mem_cons.mpr ⟨va_Nc.of (hf _ (by decide +kernel)), ?_⟩
  refine List.forall_mem_cons.mpr ⟨va_Nc.of (hf _ (by decide +kernel)), ?_⟩
  refine List.forall_mem_cons.mpr ⟨va_Nc.of (hf _ (by decide +kernel)), ?_⟩
  refine List.forall_mem_cons.mpr ⟨va_Nc.of (hf _ (by decide +kernel)), ?_⟩
  refine List.forall_mem_cons.mpr ⟨va_Nc.of (hf _ (by decide +kernel)), ?_⟩
  refine List.forall_mem_cons.mpr ⟨va_Nc.of (hf _ (by decide +kernel)), ?_⟩
  refine List.forall_mem_cons.mpr ⟨va_Nc.of (hf _ (by decide +kernel)), ?_⟩
  refine List.forall_mem_cons.mpr ⟨va_Nc.of (hf _ (by decide +kernel)), ?_⟩
  refine List.forall_mem_cons.mpr ⟨va_Nc.of (hf _ (by decide +kernel)), ?_⟩
  refine List.forall_mem_cons.mpr ⟨va_Nc.of (hf _ (by decide +kernel)), ?_⟩
  refine List.forall_mem_cons.mpr ⟨va_Nc.of (hf _ (by decide +kernel)), ?_⟩
  refine List.forall_mem_cons.mpr ⟨va_Nc.of (hf _ (by decide +kernel)), ?_⟩
  refine List.forall_mem_cons.mpr ⟨va_Nc.of (hf _ (by decide +kernel)), ?_⟩
  refine List.forall_mem_cons.mpr ⟨va_Nc.of (hf _ (by decide +kernel)), ?_⟩
  intro q hq
  cases hq
theorem jarrs {s : State} {args : Array Value} (hts : ∀ w ∈ lw_tbl, w.before args s = true) : ∃ cA : Nat → ClassId, ∀ t, 20 ≤ t → t ≤ 25 → ArrOfT s (cA t) (jty t) ∧ va_RA s (cA t) (jty t) := by
  have prim : ∀ (t : Nat), Cond.arrayClass (jty t) ∈ jTB → (∀ cX : ClassId, s.vm.findClass ("[" ++ (jty t).toString) = some cX → va_RA s cX (jty t)) → ∃ cX : ClassId, ArrOfT s cX (jty t) ∧ va_RA s cX (jty t) := by
    intro t hw hr
    obtain ⟨cX, k, comp, h1, h2, h3⟩ := Cond.arrayClass_spec (hts _ (List.mem_filter.mp hw).1)
    exact ⟨cX, fun N z => ⟨(fun k h => by cases h), k, h2, comp, h3⟩, hr cX h1⟩
  have refs : ∀ (C : String), va_AO C s → ∃ cX : ClassId, ArrOfT s cX (.object C) ∧ va_RA s cX (.object C) := by
    intro C ho
    obtain ⟨comp, cX, k, h1, h2, h3, h4, h5⟩ := Cond.arrayOver_spec (va_AO.use (A := args) ho)
    exact ⟨cX, fun N z => ⟨(fun k h => by cases h), k, h3, comp, h4⟩, k, comp, h3, h4, h1, h5⟩
  obtain ⟨c0, h0⟩ := prim 20 (jarrW .int (by decide)) (fun _ h => h)
  obtain ⟨c1, h1⟩ := prim 21 (jarrW .long (by decide)) (fun _ h => h)
  obtain ⟨c2, h2⟩ := prim 22 (jarrW .byte (by decide)) (fun _ h => h)
  obtain ⟨c3, h3⟩ := prim 23 (jarrW .boolean (by decide)) (fun _ h => h)
  obtain ⟨c4, h4⟩ := refs RX4 (va_AO.of (A := args) (hts (.arrayOver (.object RX4)) (jword_mem (n := 1116) (by decide +kernel))))
  obtain ⟨c5, h5⟩ := refs RX0 (va_AO.of (A := args) (hts (.arrayOver (.object RX0)) (jword_mem (n := 1173) (by decide +kernel))))
  refine ⟨fun t => if t = 20 then c0 else if t = 21 then c1 else if t = 22 then c2 else if t = 23 then c3 else if t = 24 then c4 else c5, fun t ht1 ht2 => ?_⟩
  have : t = 20 ∨ t = 21 ∨ t = 22 ∨ t = 23 ∨ t = 24 ∨ t = 25 := by omega
  rcases this with e | e | e | e | e | e <;> subst e
  · exact h0
  · exact h1
  · exact h2
  · exact h3
  · exact h4
  · exact h5
set_option maxHeartbeats 4000000 in
set_option maxRecDepth 100000 in
theorem jkn {s : State} {args : Array Value} (hts : ∀ w ∈ lw_tbl, w.before args s = true) : ∃ D : va_G, ∀ (k : Nat) (q : vw_C), vwCl[k]? = some q → u_Kn s q.1 q.2.1 q.2.2 (D.1 k) (D.2 k) := by
  have hts' : ∀ w ∈ jTB, w.before args s = true := fun w h => hts w (List.mem_filter.mp h).1
  obtain ⟨k0, i0, hk0⟩ := u_known (C := RX0) (T := TX0) (N := 3) (n := 3) hts' jlay0 (hts _ (jword_mem (n := 1144) (by decide +kernel)))
  obtain ⟨k1, i1, hk1⟩ := u_known (C := RX1) (T := TX1) (N := 3) (n := 3) hts' jlay1 (hts _ (jword_mem (n := 3193) (by decide +kernel)))
  obtain ⟨k2, i2, hk2⟩ := u_known (C := RX2) (T := TX2) (N := 3) (n := 3) hts' jlay2 (hts _ (jword_mem (n := 3203) (by decide +kernel)))
  obtain ⟨k3, i3, hk3⟩ := u_known (C := RX3) (T := TX3) (N := 3) (n := 3) hts' jlay3 (hts _ (jword_mem (n := 3223) (by decide +kernel)))
  obtain ⟨k4, i4, hk4⟩ := u_known (C := RX4) (T := TX4) (N := 14) (n := 14) hts' jlay4 (hts _ (jword_mem (n := 3036) (by decide +kernel)))
  obtain ⟨k5, i5, hk5⟩ := u_known (C := RX5) (T := TX5) (N := 15) (n := 15) hts' jlay5 (hts _ (jword_mem (n := 1061) (by decide +kernel)))
  obtain ⟨k6, i6, hk6⟩ := u_known (C := RX6) (T := TX6) (N := 3) (n := 3) hts' jlay6 (hts _ (jword_mem (n := 3213) (by decide +kernel)))
  obtain ⟨k7, i7, hk7⟩ := u_known (C := RX7) (T := TX7) (N := 6) (n := 6) hts' jlay7 (hts _ (jword_mem (n := 1118) (by decide +kernel)))
  obtain ⟨k8, i8, hk8⟩ := u_known (C := RX8) (T := TX8) (N := 3) (n := 3) hts' jlay8 (hts _ (jword_mem (n := 3233) (by decide +kernel)))
  obtain ⟨k9, i9, hk9⟩ := u_known (C := RX9) (T := TX9) (N := 15) (n := 15) hts' jlay9 (hts _ (jword_mem (n := 1175) (by decide +kernel)))
  obtain ⟨k10, i10, hk10⟩ := u_known (C := RX10) (T := TX10) (N := 8) (n := 8) hts' jlay10 (hts _ (jword_mem (n := 1026) (by decide +kernel)))
  obtain ⟨k11, i11, hk11⟩ := u_known (C := RX11) (T := TX11) (N := 17) (n := 17) hts' jlay11 (hts _ (jword_mem (n := 1018) (by decide +kernel)))
  obtain ⟨k12, i12, hk12⟩ := u_known (C := RX12) (T := TX12) (N := 66) (n := 66) hts' jlay12 (hts _ (jword_mem (n := 6191) (by decide +kernel)))
  refine ⟨(fun k => if k = 0 then k0 else if k = 1 then k1 else if k = 2 then k2 else if k = 3 then k3 else if k = 4 then k4 else if k = 5 then k5 else if k = 6 then k6 else if k = 7 then k7 else if k = 8 then k8 else if k = 9 then k9 else if k = 10 then k10 else if k = 11 then k11 else k12, fun k => if k = 0 then i0 else if k = 1 then i1 else if k = 2 then i2 else if k = 3 then i3 else if k = 4 then i4 else if k = 5 then i5 else if k = 6 then i6 else if k = 7 then i7 else if k = 8 then i8 else if k = 9 then i9 else if k = 10 then i10 else if k = 11 then i11 else i12), ?_⟩
  intro k q hq
  match k, hq with
  | 0, hq => cases hq; exact hk0
  | 1, hq => cases hq; exact hk1
  | 2, hq => cases hq; exact hk2
  | 3, hq => cases hq; exact hk3
  | 4, hq => cases hq; exact hk4
  | 5, hq => cases hq; exact hk5
  | 6, hq => cases hq; exact hk6
  | 7, hq => cases hq; exact hk7
  | 8, hq => cases hq; exact hk8
  | 9, hq => cases hq; exact hk9
  | 10, hq => cases hq; exact hk10
  | 11, hq => cases hq; exact hk11
  | 12, hq => cases hq; exact hk12
  | k + 13, hq => simp [vwCl] at hq
set_option maxHeartbeats 1000000 in
/-- the law's run on the simple machine is its run on the real one -/
theorem law_sound {p : Program} {e : Env} {s : State} {m : MethodId} {below : List Frame} {meth : Method} {c : Code} (l : Launch) {b L : Nat} {xs : Nat → Int32} (hL : L < 2147483648) (C0 : lw_At p s m meth c b L xs) {d : Nat} (hd : d ≤ 1000) (hall : ∀ k, k < jnM → jP k ≠ [] → jchkM k = true) (hN : jchkN jnM = true)
    (hev : jEv (jOk d) (some L) (fun j => (xs j).toInt) (jP jnM) 600000 7302250 (fun v _ => v = some (0, 1)) (jP jnM, jentry [(2, -2)] (jML jnM), [], jh0, 0, 0)) : W p l e room_1 s m #[Value.ref b] below meth c s.heap [] 0 0 (lw_Z below #[Value.ref b] s) (entryFrame m ([Value.ref b] : List Value).toArray 4) := by
  obtain ⟨hx, hb, hr, hml, hown, hts, hX, hbl, hlocks, hgv⟩ := id C0
  obtain ⟨D, hD⟩ := jkn hts
  obtain ⟨cA, hcA⟩ := jarrs hts
  have has : ∀ v ∈ [((2, -2) : AV)], jok v := by
    intro v hv
    rw [List.mem_singleton.mp hv]
    exact jok_a.mpr (by omega)
  have hKp : jKp D cA s.heap.size b (some L) (fun j => (xs j).toInt) s s.heap := by
    refine ⟨⟨hD, hcA, fun w hw => ?_, ⟨va_AO.of (A := #[Value.ref b]) (hts (.arrayOver (.object RX4)) (jword_mem (n := 1116) (by decide +kernel))), va_AO.of (A := #[Value.ref b]) (hts (.arrayOver (.object RX0)) (jword_mem (n := 1173) (by decide +kernel)))⟩, jnc_ok hgv⟩, hbl, fun n hn => ?_⟩
    · obtain ⟨h1, h2⟩ := List.mem_filter.mp hw
      have h3 := hts w h1
      cases w <;> simp [jisN] at h2 <;> exact va_Nw.of rfl h3
    · cases hn
      have : (fun j => Int32.ofInt ((xs j).toInt)) = xs := by funext j; exact Int32.ofInt_toInt _
      refine ⟨?_, fun j => j32_in _, hL⟩
      rw [this]
      exact hX
  have C : jCx p room_1 s m #[Value.ref b] meth c D cA s.heap.size b (some L) (fun j => (xs j).toInt) jnM := ⟨hx, hb, hml, hown, fun w hw => hts w (List.mem_filter.mp hw).1, hKp, Nat.le_refl _, ?_, by decide, by decide⟩
  · have hH : jHp D cA s.heap.size b s.heap jh0 := ⟨rfl, fun k hk => by cases hk⟩
    have key := hev (jX p l e room_1 s m #[Value.ref b] below meth c (lw_Z below #[Value.ref b] s) D cA s.heap.size b jnM) ?_ ?_ ?_
    · have h1 := key.2 ⟨[], rfl⟩ (jentry_len (by decide))
      simp only at h1
      have hpz : jpc (jP jnM) = 0 := by decide +kernel
      rw [hpz] at h1
      have h2 := h1 s.heap [] _ hH va_S.rf (jL_entry has (by decide)) (fun v hv => by cases hv)
      have e1 : ([((2, -2) : AV)].map (jv s.heap.size b)) = [Value.ref b] := rfl
      rw [e1] at h2
      rw [lg_entry_eq]
      exact h2
    · intro st st' h1 h2 h3
      exact jstep_ok C hN h1 h2 h3
    · intro K LL S h' cu su v hv h2 h3 hQ
      revert hv
      match K with
      | [] => intro hv; cases hv
      | (pc, i, n, ps, z) :: K' =>
        intro hv
        refine ⟨by simp, fun hsf hlen2 => ?_⟩
        obtain ⟨hdd, hc, hsK, hpK⟩ := jchkM_at hN hsf
        simp only at hdd
        show jXW _ _ _ _ _ _ _ _ _ _ _ _ _ _ _ pc LL S h' cu su
        intro H locs ls hH' hS hLs hs
        subst hQ
        simp only [jret] at hv
        simp only [jchkL] at hc
        cases i
        case ireturn =>
          dsimp only at hv hc
          simp only [Bool.and_eq_true, beq_iff_eq] at hc
          obtain ⟨hn, hc⟩ := hc
          split at hv
          · rename_i w
            split at hv
            · rename_i hw
              simp only [Option.some.injEq] at hv
              subst hv
              refine va_forget (fun q hq => hS.2.2 q hq) (W.widen h2 h3 ?_)
              exact lw_ret hx hb hr hlocks (by rw [← hb]; have := hdd; rw [hn] at this; rw [hb]; exact this)
            · cases hv
          · cases hv
        case return_ =>
          dsimp only at hv
          split at hv <;> cases hv
        case lreturn =>
          dsimp only at hv
          split at hv
          · split at hv
            · rename_i w hw
              simp only [Option.some.injEq] at hv
              subst hv
              cases hw
            · cases hv
          · cases hv
        case areturn =>
          dsimp only at hv
          split at hv
          · split at hv
            · rename_i w hw
              simp only [Option.some.injEq] at hv
              subst hv
              cases hw
            · cases hv
          · cases hv
        all_goals (cases hv)
    · intro K LL S h' cu su k' as' S' xx yy Q' h1 h2 h3 h4 h5
      exact jcall_ok C hN (d := d) (by show d + 1 ≤ 2048; omega) (by show 60 * (d + 1) ≤ 84000; omega) h1 (fun has' => jsound hall d xx yy k' as' h' Q' h2 has') h3 h4 h5
  · intro h
    exact absurd h (by decide)
end
section
def frT : List (Nat × Nat) := [(11, 17), (10, 8), (20, 4), (20, 4), (20, 36), (21, 12), (21, 256), (5, 15), (22, 200), (20, 6), (20, 200), (20, 200), (20, 200), (20, 800), (20, 800), (20, 200), (20, 200), (20, 200), (24, 6), (7, 6), (20, 6), (20, 6), (20, 24), (0, 3), (25, 20), (20, 120), (9, 15), (20, 32), (20, 3), (20, 3), (20, 3), (20, 4), (20, 4), (20, 4), (20, 20), (20, 20), (20, 20), (20, 6), (20, 6), (21, 360), (21, 396), (20, 99), (12, 66), (20, 4), (20, 4), (20, 36), (20, 324), (21, 81), (20, 7), (22, 700), (20, 700), (22, 2800), (20, 2800), (22, 700), (22, 200), (20, 6), (20, 40), (20, 40), (20, 40), (20, 40), (20, 20), (20, 20), (20, 6), (20, 6), (20, 4), (22, 100), (22, 9900), (20, 32), (20, 3), (20, 3), (20, 3), (20, 4), (20, 4), (20, 4), (20, 20), (20, 20), (20, 20), (20, 4), (20, 24), (20, 6), (20, 6), (21, 360), (21, 60)]
def frV : List (List Int) := [[1, 7, 18, 0, 19, 23, 24, 0, 25, 0, 0, 26, 37, 38, 39, 40, 41], [0, 1, 0, 2, 3, 4, 5, 6], [0, 0, 0, 0], [0, 0, 0, 0], [], [0, 0, 0, 0, 0, 0, 0, 0, 0, 0, 0, 0], [], [0, (-1), 0, 0, 0, 8, 9, 10, 11, 12, 13, 14, 15, 16, 17], [], [0, 0, 0, 0, 0, 0], [], [], [], [], [], [], [], [], [(-1), (-1), (-1), (-1), (-1), (-1)], [20, 21, 22, 0, 0, 0], [0, 0, 0, 0, 0, 0], [0, 0, 0, 0, 0, 0], [0, 0, 0, 0, 0, 0, 0, 0, 0, 0, 0, 0, 0, 0, 0, 0, 0, 0, 0, 0, 0, 0, 0, 0], [19, 0, 0], [(-1), (-1), (-1), (-1), (-1), (-1), (-1), (-1), (-1), (-1), (-1), (-1), (-1), (-1), (-1), (-1), (-1), (-1), (-1), (-1)], [], [0, 0, 27, 0, 28, 29, 30, 0, 31, 0, 32, 33, 34, 35, 36], [], [0, 0, 0], [0, 0, 0], [0, 0, 0], [0, 0, 0, 0], [0, 0, 0, 0], [0, 0, 0, 0], [0, 0, 0, 0, 0, 0, 0, 0, 0, 0, 0, 0, 0, 0, 0, 0, 0, 0, 0, 0], [0, 0, 0, 0, 0, 0, 0, 0, 0, 0, 0, 0, 0, 0, 0, 0, 0, 0, 0, 0], [0, 0, 0, 0, 0, 0, 0, 0, 0, 0, 0, 0, 0, 0, 0, 0, 0, 0, 0, 0], [(-1), (-1), (-1), (-1), (-1), (-1)], [0, 0, 0, 0, 0, 0], [], [], [], [0, 0, 43, 44, 45, 0, 46, 47, 0, 0, 48, 49, 50, 51, 52, 53, 54, 0, 55, 0, 0, 0, 0, 0, 56, 57, 58, 59, 0, 60, 61, 0, 62, 63, 64, 65, 0, 0, 0, 0, 0, 0, 0, 66, 0, 0, 67, 0, 68, 69, 70, 0, 71, 0, 72, 73, 74, 75, 76, 77, 0, 78, 79, 80, 81, 82], [0, 0, 0, 0], [(-1), (-1), (-1), (-1)], [], [], [], [0, 0, 0, 0, 0, 0, 0], [], [], [], [], [], [], [0, 0, 0, 0, 0, 0], [], [], [], [], [0, 0, 0, 0, 0, 0, 0, 0, 0, 0, 0, 0, 0, 0, 0, 0, 0, 0, 0, 0], [0, 0, 0, 0, 0, 0, 0, 0, 0, 0, 0, 0, 0, 0, 0, 0, 0, 0, 0, 0], [0, 0, 0, 0, 0, 0], [0, 0, 0, 0, 0, 0], [(-1), (-1), (-1), (-1)], [], [], [], [0, 0, 0], [0, 0, 0], [0, 0, 0], [0, 0, 0, 0], [0, 0, 0, 0], [0, 0, 0, 0], [0, 0, 0, 0, 0, 0, 0, 0, 0, 0, 0, 0, 0, 0, 0, 0, 0, 0, 0, 0], [0, 0, 0, 0, 0, 0, 0, 0, 0, 0, 0, 0, 0, 0, 0, 0, 0, 0, 0, 0], [0, 0, 0, 0, 0, 0, 0, 0, 0, 0, 0, 0, 0, 0, 0, 0, 0, 0, 0, 0], [0, 0, 0, 0], [0, 0, 0, 0, 0, 0, 0, 0, 0, 0, 0, 0, 0, 0, 0, 0, 0, 0, 0, 0, 0, 0, 0, 0], [(-1), (-1), (-1), (-1), (-1), (-1)], [0, 0, 0, 0, 0, 0], [], []]
def frVok (h : JH) (a : Nat) : Nat → List Int → Bool
  | _, [] => true
  | i, x :: r => (h.2.2 a i == x) && frVok h a (i + 1) r
def frOk (h : JH) : Bool := (h.1 == 83) && (List.range 83).all (fun a => (h.2.1 a == frT.getD a (0, 0)) && frVok h a 0 (frV.getD a []))
def Fresh (h : JH) : Prop := h.1 = 83 ∧ (∀ a, a < 83 → h.2.1 a = frT.getD a (0, 0)) ∧ ∀ a i x, (frV.getD a [])[i]? = some x → h.2.2 a i = x
theorem frVok_at {h : JH} {a : Nat} : ∀ (l : List Int) (o : Nat), frVok h a o l = true → ∀ i x, l[i]? = some x → h.2.2 a (o + i) = x := by
  intro l
  induction l with
  | nil => intro o _ i x hx; simp at hx
  | cons y r ih =>
    intro o hk i x hx
    simp only [frVok, Bool.and_eq_true, beq_iff_eq] at hk
    match i, hx with
    | 0, hx =>
      simp only [List.getElem?_cons_zero, Option.some.injEq] at hx
      subst hx
      exact hk.1
    | i + 1, hx =>
      simp only [List.getElem?_cons_succ] at hx
      have := ih (o + 1) hk.2 i x hx
      rw [show o + (i + 1) = o + 1 + i by omega]
      exact this
theorem frV_len : frV.length = 83 := by decide
theorem fresh_of {h : JH} (e : frOk h = true) : Fresh h := by
  simp only [frOk, Bool.and_eq_true, beq_iff_eq] at e
  refine ⟨e.1, fun a ha => ?_, fun a i x hx => ?_⟩
  · have := List.all_eq_true.mp e.2 a (List.mem_range.mpr ha)
    simp only [Bool.and_eq_true, beq_iff_eq] at this
    exact this.1
  · by_cases ha : a < 83
    · have := List.all_eq_true.mp e.2 a (List.mem_range.mpr ha)
      simp only [Bool.and_eq_true, beq_iff_eq] at this
      have h2 := frVok_at _ 0 this.2 i x hx
      rw [Nat.zero_add] at h2
      exact h2
    · have e3 : frV.getD a [] = [] := by
        rw [List.getD_eq_getElem?_getD, List.getElem?_eq_none (by rw [frV_len]; omega)]
        rfl
      rw [e3] at hx
      simp at hx
def jA1 : JH := jnew jh0 11 17
def jX1 : Option (Option AV × JH × Nat × Nat) := xrun 1500 4 (jP 165) (jP 165, jentry [(2, 0)] (jML 165), [], jA1, 0, 0)
def jX2 : Option (Option AV × JH × Nat × Nat) := match jX1 with
  | some r => xrun 1500 4 (jP 241) (jP 241, jentry [(2, 42)] (jML 241), [], jnew r.2.1 12 66, 0, 0)
  | none => none
def jX1ok : Bool := match jX1 with
  | some r => r.1 == none && r.2.1.1 == 42 && decide (r.2.2.1 ≤ 41) && decide (r.2.2.2 ≤ 4527)
  | none => false
def jX2ok : Bool := match jX2 with
  | some r => r.1 == none && frOk r.2.1 && decide (r.2.2.1 ≤ 40) && decide (r.2.2.2 ≤ 19151)
  | none => false
set_option maxRecDepth 1000000 in
theorem jX1_ok : jX1ok = true := by decide +kernel
set_option maxRecDepth 1000000 in
theorem jX2_ok : jX2ok = true := by decide +kernel
theorem ctors : ∃ h1 h2 : JH, jOk 5 41 4527 165 [(2, 0)] jA1 (fun v h => v = none ∧ h = h1) ∧ h1.1 = 42 ∧ jOk 5 40 19151 241 [(2, 42)] (jnew h1 12 66) (fun v h => v = none ∧ h = h2) ∧ Fresh h2 := by
  have e1 := jX1_ok
  have e2 := jX2_ok
  unfold jX1ok at e1
  unfold jX2ok at e2
  cases hx1 : jX1 with
  | none => rw [hx1] at e1; cases e1
  | some r1 =>
    rw [hx1] at e1
    simp only [Bool.and_eq_true, beq_iff_eq, decide_eq_true_eq] at e1
    cases hx2 : jX2 with
    | none => rw [hx2] at e2; cases e2
    | some r2 =>
      rw [hx2] at e2
      simp only [Bool.and_eq_true, beq_iff_eq, decide_eq_true_eq] at e2
      refine ⟨r1.2.1, r2.2.1, ⟨by decide, by decide +kernel, ?_⟩, e1.1.1.2, ⟨by decide, by decide +kernel, ?_⟩, fresh_of e2.1.1.2⟩
      · have := xrun_ok _ _ _ _ 41 4527 r1 hx1 e1.1.2 e1.2
        rw [e1.1.1.1] at this
        exact this
      · unfold jX2 at hx2
        rw [hx1] at hx2
        have := xrun_ok _ _ _ _ 40 19151 r2 hx2 e2.1.2 e2.2
        rw [e2.1.1.1] at this
        exact this
theorem Fresh.lt {h : JH} (e : Fresh h) {a : Nat} (ha : a < 83) : a < h.1 := by rw [e.1]; exact ha
theorem Fresh.sh {h : JH} (e : Fresh h) {a t n : Nat} (ha : a < 83) (ht : frT.getD a (0, 0) = (t, n)) : (h.2.1 a).1 = t ∧ (h.2.1 a).2 = n := by rw [e.2.1 a ha, ht]; exact ⟨rfl, rfl⟩
theorem Fresh.fam {h : JH} (e : Fresh h) {f a : Nat} (ha : a < 83) (ht : jfam f (frT.getD a (0, 0)).1 = true) : jfam f (h.2.1 a).1 = true := by rw [e.2.1 a ha]; exact ht
theorem Fresh.v {h : JH} (e : Fresh h) {a i : Nat} {x : Int} (hx : (frV.getD a [])[i]? = some x) : h.2.2 a i = x := e.2.2 a i x hx
end
