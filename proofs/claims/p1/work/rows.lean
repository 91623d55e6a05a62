section
/-- a private method of a class that the tables say can be made, by its rows of tables_1 -/
def lw_okq (q : MethodName × Nat) : Prop := (q.1.cls ≠ "java/lang/invoke/MethodHandle" ∧ q.1.cls ≠ "java/lang/invoke/VarHandle") ∧ Cond.instantiable q.1.cls q.2 ∈ tables_1 ∧ Cond.privateMethod q.1 ∈ tables_1 ∧ Cond.instanceMethod q.1 ∈ tables_1
theorem lw_p0 : lw_okq (⟨"HopCredits", "append", "(I)V"⟩, 9) := ⟨⟨by decide +kernel, by decide +kernel⟩, List.mem_of_getElem? (i := 20) (by decide +kernel), List.mem_of_getElem? (i := 318) (by decide +kernel), List.mem_of_getElem? (i := 319) (by decide +kernel)⟩
theorem lw_p1 : lw_okq (⟨"HopCredits$Reading", "setUsual", "()V"⟩, 7) := ⟨⟨by decide +kernel, by decide +kernel⟩, List.mem_of_getElem? (i := 28) (by decide +kernel), List.mem_of_getElem? (i := 340) (by decide +kernel), List.mem_of_getElem? (i := 341) (by decide +kernel)⟩
theorem lw_p2 : lw_okq (⟨"HopCredits$Reading", "readClause", "(Z)V"⟩, 7) := ⟨⟨by decide +kernel, by decide +kernel⟩, List.mem_of_getElem? (i := 28) (by decide +kernel), List.mem_of_getElem? (i := 349) (by decide +kernel), List.mem_of_getElem? (i := 350) (by decide +kernel)⟩
theorem lw_p3 : lw_okq (⟨"HopCredits$Reading", "readHead", "(Z)I"⟩, 7) := ⟨⟨by decide +kernel, by decide +kernel⟩, List.mem_of_getElem? (i := 28) (by decide +kernel), List.mem_of_getElem? (i := 353) (by decide +kernel), List.mem_of_getElem? (i := 354) (by decide +kernel)⟩
theorem lw_p4 : lw_okq (⟨"HopCredits$Reading", "passBlanks", "()V"⟩, 7) := ⟨⟨by decide +kernel, by decide +kernel⟩, List.mem_of_getElem? (i := 28) (by decide +kernel), List.mem_of_getElem? (i := 357) (by decide +kernel), List.mem_of_getElem? (i := 358) (by decide +kernel)⟩
theorem lw_p5 : lw_okq (⟨"HopCredits$Reading", "clauseOf", "(IZ)I"⟩, 7) := ⟨⟨by decide +kernel, by decide +kernel⟩, List.mem_of_getElem? (i := 28) (by decide +kernel), List.mem_of_getElem? (i := 361) (by decide +kernel), List.mem_of_getElem? (i := 362) (by decide +kernel)⟩
theorem lw_p6 : lw_okq (⟨"HopCredits$Reading", "readNumber", "(II)V"⟩, 7) := ⟨⟨by decide +kernel, by decide +kernel⟩, List.mem_of_getElem? (i := 28) (by decide +kernel), List.mem_of_getElem? (i := 409) (by decide +kernel), List.mem_of_getElem? (i := 410) (by decide +kernel)⟩
theorem lw_p7 : lw_okq (⟨"HopCredits$Reading", "isDigitHere", "()Z"⟩, 7) := ⟨⟨by decide +kernel, by decide +kernel⟩, List.mem_of_getElem? (i := 28) (by decide +kernel), List.mem_of_getElem? (i := 413) (by decide +kernel), List.mem_of_getElem? (i := 414) (by decide +kernel)⟩
theorem lw_p8 : lw_okq (⟨"HopCredits$Net", "layRules", "(III)V"⟩, 11) := ⟨⟨by decide +kernel, by decide +kernel⟩, List.mem_of_getElem? (i := 57) (by decide +kernel), List.mem_of_getElem? (i := 446) (by decide +kernel), List.mem_of_getElem? (i := 447) (by decide +kernel)⟩
theorem lw_p9 : lw_okq (⟨"HopCredits", "isLane", "(II)Z"⟩, 9) := ⟨⟨by decide +kernel, by decide +kernel⟩, List.mem_of_getElem? (i := 20) (by decide +kernel), List.mem_of_getElem? (i := 488) (by decide +kernel), List.mem_of_getElem? (i := 489) (by decide +kernel)⟩
theorem lw_p10 : lw_okq (⟨"HopCredits", "isHop", "(I)Z"⟩, 9) := ⟨⟨by decide +kernel, by decide +kernel⟩, List.mem_of_getElem? (i := 20) (by decide +kernel), List.mem_of_getElem? (i := 492) (by decide +kernel), List.mem_of_getElem? (i := 493) (by decide +kernel)⟩
theorem lw_p11 : lw_okq (⟨"HopCredits", "isCircuit", "(I)Z"⟩, 9) := ⟨⟨by decide +kernel, by decide +kernel⟩, List.mem_of_getElem? (i := 20) (by decide +kernel), List.mem_of_getElem? (i := 496) (by decide +kernel), List.mem_of_getElem? (i := 497) (by decide +kernel)⟩
theorem lw_p12 : lw_okq (⟨"HopCredits", "isNode", "(I)Z"⟩, 9) := ⟨⟨by decide +kernel, by decide +kernel⟩, List.mem_of_getElem? (i := 20) (by decide +kernel), List.mem_of_getElem? (i := 521) (by decide +kernel), List.mem_of_getElem? (i := 522) (by decide +kernel)⟩
theorem lw_p13 : lw_okq (⟨"HopCredits", "refuse", "(I)I"⟩, 9) := ⟨⟨by decide +kernel, by decide +kernel⟩, List.mem_of_getElem? (i := 20) (by decide +kernel), List.mem_of_getElem? (i := 541) (by decide +kernel), List.mem_of_getElem? (i := 542) (by decide +kernel)⟩
theorem lw_p14 : lw_okq (⟨"HopCredits", "stepForReal", "()V"⟩, 9) := ⟨⟨by decide +kernel, by decide +kernel⟩, List.mem_of_getElem? (i := 20) (by decide +kernel), List.mem_of_getElem? (i := 545) (by decide +kernel), List.mem_of_getElem? (i := 546) (by decide +kernel)⟩
theorem lw_p15 : lw_okq (⟨"HopCredits$Net", "arriveOver", "(I)V"⟩, 11) := ⟨⟨by decide +kernel, by decide +kernel⟩, List.mem_of_getElem? (i := 57) (by decide +kernel), List.mem_of_getElem? (i := 553) (by decide +kernel), List.mem_of_getElem? (i := 554) (by decide +kernel)⟩
def lw_privs_1 : List (MethodName × Nat) := [(⟨"HopCredits", "append", "(I)V"⟩, 9), (⟨"HopCredits$Reading", "setUsual", "()V"⟩, 7), (⟨"HopCredits$Reading", "readClause", "(Z)V"⟩, 7), (⟨"HopCredits$Reading", "readHead", "(Z)I"⟩, 7), (⟨"HopCredits$Reading", "passBlanks", "()V"⟩, 7), (⟨"HopCredits$Reading", "clauseOf", "(IZ)I"⟩, 7), (⟨"HopCredits$Reading", "readNumber", "(II)V"⟩, 7), (⟨"HopCredits$Reading", "isDigitHere", "()Z"⟩, 7), (⟨"HopCredits$Net", "layRules", "(III)V"⟩, 11), (⟨"HopCredits", "isLane", "(II)Z"⟩, 9), (⟨"HopCredits", "isHop", "(I)Z"⟩, 9), (⟨"HopCredits", "isCircuit", "(I)Z"⟩, 9), (⟨"HopCredits", "isNode", "(I)Z"⟩, 9), (⟨"HopCredits", "refuse", "(I)I"⟩, 9), (⟨"HopCredits", "stepForReal", "()V"⟩, 9), (⟨"HopCredits$Net", "arriveOver", "(I)V"⟩, 11)]
theorem lw_r1 : ∀ q ∈ lw_privs_1, lw_okq q := List.forall_mem_cons.mpr ⟨lw_p0, List.forall_mem_cons.mpr ⟨lw_p1, List.forall_mem_cons.mpr ⟨lw_p2, List.forall_mem_cons.mpr ⟨lw_p3, List.forall_mem_cons.mpr ⟨lw_p4, List.forall_mem_cons.mpr ⟨lw_p5, List.forall_mem_cons.mpr ⟨lw_p6, List.forall_mem_cons.mpr ⟨lw_p7, List.forall_mem_cons.mpr ⟨lw_p8, List.forall_mem_cons.mpr ⟨lw_p9, List.forall_mem_cons.mpr ⟨lw_p10, List.forall_mem_cons.mpr ⟨lw_p11, List.forall_mem_cons.mpr ⟨lw_p12, List.forall_mem_cons.mpr ⟨lw_p13, List.forall_mem_cons.mpr ⟨lw_p14, List.forall_mem_cons.mpr ⟨lw_p15, fun _ h => absurd h List.not_mem_nil⟩⟩⟩⟩⟩⟩⟩⟩⟩⟩⟩⟩⟩⟩⟩⟩
theorem lw_p16 : lw_okq (⟨"HopCredits$Net", "sendUpdate", "(LHopCredits$Link;I)V"⟩, 11) := ⟨⟨by decide +kernel, by decide +kernel⟩, List.mem_of_getElem? (i := 57) (by decide +kernel), List.mem_of_getElem? (i := 564) (by decide +kernel), List.mem_of_getElem? (i := 565) (by decide +kernel)⟩
theorem lw_p17 : lw_okq (⟨"HopCredits$Net", "come", "(I)V"⟩, 11) := ⟨⟨by decide +kernel, by decide +kernel⟩, List.mem_of_getElem? (i := 57) (by decide +kernel), List.mem_of_getElem? (i := 569) (by decide +kernel), List.mem_of_getElem? (i := 570) (by decide +kernel)⟩
theorem lw_p18 : lw_okq (⟨"HopCredits$Net", "take", "(I)V"⟩, 11) := ⟨⟨by decide +kernel, by decide +kernel⟩, List.mem_of_getElem? (i := 57) (by decide +kernel), List.mem_of_getElem? (i := 577) (by decide +kernel), List.mem_of_getElem? (i := 578) (by decide +kernel)⟩
theorem lw_p19 : lw_okq (⟨"HopCredits$Net", "goneFrom", "(II)V"⟩, 11) := ⟨⟨by decide +kernel, by decide +kernel⟩, List.mem_of_getElem? (i := 57) (by decide +kernel), List.mem_of_getElem? (i := 585) (by decide +kernel), List.mem_of_getElem? (i := 586) (by decide +kernel)⟩
theorem lw_p20 : lw_okq (⟨"HopCredits$Net", "sendOver", "(I)V"⟩, 11) := ⟨⟨by decide +kernel, by decide +kernel⟩, List.mem_of_getElem? (i := 57) (by decide +kernel), List.mem_of_getElem? (i := 589) (by decide +kernel), List.mem_of_getElem? (i := 590) (by decide +kernel)⟩
theorem lw_p21 : lw_okq (⟨"HopCredits$Net", "nextSender", "(I)I"⟩, 11) := ⟨⟨by decide +kernel, by decide +kernel⟩, List.mem_of_getElem? (i := 57) (by decide +kernel), List.mem_of_getElem? (i := 593) (by decide +kernel), List.mem_of_getElem? (i := 594) (by decide +kernel)⟩
theorem lw_p22 : lw_okq (⟨"HopCredits$Net", "waitAt", "(I)V"⟩, 11) := ⟨⟨by decide +kernel, by decide +kernel⟩, List.mem_of_getElem? (i := 57) (by decide +kernel), List.mem_of_getElem? (i := 598) (by decide +kernel), List.mem_of_getElem? (i := 599) (by decide +kernel)⟩
theorem lw_p23 : lw_okq (⟨"HopCredits$Net", "adapt", "(LHopCredits$Link;)V"⟩, 11) := ⟨⟨by decide +kernel, by decide +kernel⟩, List.mem_of_getElem? (i := 57) (by decide +kernel), List.mem_of_getElem? (i := 610) (by decide +kernel), List.mem_of_getElem? (i := 611) (by decide +kernel)⟩
theorem lw_p24 : lw_okq (⟨"HopCredits", "zoneRefusal", "(III)I"⟩, 9) := ⟨⟨by decide +kernel, by decide +kernel⟩, List.mem_of_getElem? (i := 20) (by decide +kernel), List.mem_of_getElem? (i := 654) (by decide +kernel), List.mem_of_getElem? (i := 655) (by decide +kernel)⟩
theorem lw_p25 : lw_okq (⟨"HopCredits", "largestZone", "(II)I"⟩, 9) := ⟨⟨by decide +kernel, by decide +kernel⟩, List.mem_of_getElem? (i := 20) (by decide +kernel), List.mem_of_getElem? (i := 658) (by decide +kernel), List.mem_of_getElem? (i := 659) (by decide +kernel)⟩
theorem lw_p26 : lw_okq (⟨"HopCredits", "goApart", "(I)V"⟩, 9) := ⟨⟨by decide +kernel, by decide +kernel⟩, List.mem_of_getElem? (i := 20) (by decide +kernel), List.mem_of_getElem? (i := 677) (by decide +kernel), List.mem_of_getElem? (i := 678) (by decide +kernel)⟩
theorem lw_p27 : lw_okq (⟨"HopCredits", "deliveredApart", "()I"⟩, 9) := ⟨⟨by decide +kernel, by decide +kernel⟩, List.mem_of_getElem? (i := 20) (by decide +kernel), List.mem_of_getElem? (i := 714) (by decide +kernel), List.mem_of_getElem? (i := 715) (by decide +kernel)⟩
theorem lw_p28 : lw_okq (⟨"HopCredits", "deliveredApartOf", "(I)I"⟩, 9) := ⟨⟨by decide +kernel, by decide +kernel⟩, List.mem_of_getElem? (i := 20) (by decide +kernel), List.mem_of_getElem? (i := 722) (by decide +kernel), List.mem_of_getElem? (i := 723) (by decide +kernel)⟩
theorem lw_p29 : lw_okq (⟨"HopCredits", "tallyIdle", "(I)V"⟩, 9) := ⟨⟨by decide +kernel, by decide +kernel⟩, List.mem_of_getElem? (i := 20) (by decide +kernel), List.mem_of_getElem? (i := 734) (by decide +kernel), List.mem_of_getElem? (i := 735) (by decide +kernel)⟩
theorem lw_p30 : lw_okq (⟨"HopCredits", "clearTally", "()V"⟩, 9) := ⟨⟨by decide +kernel, by decide +kernel⟩, List.mem_of_getElem? (i := 20) (by decide +kernel), List.mem_of_getElem? (i := 738) (by decide +kernel), List.mem_of_getElem? (i := 739) (by decide +kernel)⟩
theorem lw_p31 : lw_okq (⟨"HopCredits", "deliveredJammed", "(II)I"⟩, 9) := ⟨⟨by decide +kernel, by decide +kernel⟩, List.mem_of_getElem? (i := 20) (by decide +kernel), List.mem_of_getElem? (i := 768) (by decide +kernel), List.mem_of_getElem? (i := 769) (by decide +kernel)⟩
def lw_privs_2 : List (MethodName × Nat) := [(⟨"HopCredits$Net", "sendUpdate", "(LHopCredits$Link;I)V"⟩, 11), (⟨"HopCredits$Net", "come", "(I)V"⟩, 11), (⟨"HopCredits$Net", "take", "(I)V"⟩, 11), (⟨"HopCredits$Net", "goneFrom", "(II)V"⟩, 11), (⟨"HopCredits$Net", "sendOver", "(I)V"⟩, 11), (⟨"HopCredits$Net", "nextSender", "(I)I"⟩, 11), (⟨"HopCredits$Net", "waitAt", "(I)V"⟩, 11), (⟨"HopCredits$Net", "adapt", "(LHopCredits$Link;)V"⟩, 11), (⟨"HopCredits", "zoneRefusal", "(III)I"⟩, 9), (⟨"HopCredits", "largestZone", "(II)I"⟩, 9), (⟨"HopCredits", "goApart", "(I)V"⟩, 9), (⟨"HopCredits", "deliveredApart", "()I"⟩, 9), (⟨"HopCredits", "deliveredApartOf", "(I)I"⟩, 9), (⟨"HopCredits", "tallyIdle", "(I)V"⟩, 9), (⟨"HopCredits", "clearTally", "()V"⟩, 9), (⟨"HopCredits", "deliveredJammed", "(II)I"⟩, 9)]
theorem lw_r2 : ∀ q ∈ lw_privs_2, lw_okq q := List.forall_mem_cons.mpr ⟨lw_p16, List.forall_mem_cons.mpr ⟨lw_p17, List.forall_mem_cons.mpr ⟨lw_p18, List.forall_mem_cons.mpr ⟨lw_p19, List.forall_mem_cons.mpr ⟨lw_p20, List.forall_mem_cons.mpr ⟨lw_p21, List.forall_mem_cons.mpr ⟨lw_p22, List.forall_mem_cons.mpr ⟨lw_p23, List.forall_mem_cons.mpr ⟨lw_p24, List.forall_mem_cons.mpr ⟨lw_p25, List.forall_mem_cons.mpr ⟨lw_p26, List.forall_mem_cons.mpr ⟨lw_p27, List.forall_mem_cons.mpr ⟨lw_p28, List.forall_mem_cons.mpr ⟨lw_p29, List.forall_mem_cons.mpr ⟨lw_p30, List.forall_mem_cons.mpr ⟨lw_p31, fun _ h => absurd h List.not_mem_nil⟩⟩⟩⟩⟩⟩⟩⟩⟩⟩⟩⟩⟩⟩⟩⟩
theorem lw_p32 : lw_okq (⟨"HopCredits", "deliveredByZone", "(IIII)I"⟩, 9) := ⟨⟨by decide +kernel, by decide +kernel⟩, List.mem_of_getElem? (i := 20) (by decide +kernel), List.mem_of_getElem? (i := 802) (by decide +kernel), List.mem_of_getElem? (i := 803) (by decide +kernel)⟩
theorem lw_p33 : lw_okq (⟨"HopCredits", "tallyWaits", "(II)V"⟩, 9) := ⟨⟨by decide +kernel, by decide +kernel⟩, List.mem_of_getElem? (i := 20) (by decide +kernel), List.mem_of_getElem? (i := 818) (by decide +kernel), List.mem_of_getElem? (i := 819) (by decide +kernel)⟩
theorem lw_p34 : lw_okq (⟨"HopCredits", "sentAlone", "(IIIII)I"⟩, 9) := ⟨⟨by decide +kernel, by decide +kernel⟩, List.mem_of_getElem? (i := 20) (by decide +kernel), List.mem_of_getElem? (i := 838) (by decide +kernel), List.mem_of_getElem? (i := 839) (by decide +kernel)⟩
theorem lw_p35 : lw_okq (⟨"java/lang/Throwable", "fillInStackTrace", "(I)Ljava/lang/Throwable;"⟩, 6) := ⟨⟨by decide +kernel, by decide +kernel⟩, List.mem_of_getElem? (i := 920) (by decide +kernel), List.mem_of_getElem? (i := 918) (by decide +kernel), List.mem_of_getElem? (i := 919) (by decide +kernel)⟩
theorem lw_p36 : lw_okq (⟨"HopCreditsModel", "readNet", "()I"⟩, 21) := ⟨⟨by decide +kernel, by decide +kernel⟩, List.mem_of_getElem? (i := 970) (by decide +kernel), List.mem_of_getElem? (i := 1062) (by decide +kernel), List.mem_of_getElem? (i := 1063) (by decide +kernel)⟩
theorem lw_p37 : lw_okq (⟨"HopCreditsModel", "laysUsual", "(I[II)V"⟩, 21) := ⟨⟨by decide +kernel, by decide +kernel⟩, List.mem_of_getElem? (i := 970) (by decide +kernel), List.mem_of_getElem? (i := 1066) (by decide +kernel), List.mem_of_getElem? (i := 1067) (by decide +kernel)⟩
theorem lw_p38 : lw_okq (⟨"HopCreditsModel", "clause", "(Z)V"⟩, 21) := ⟨⟨by decide +kernel, by decide +kernel⟩, List.mem_of_getElem? (i := 970) (by decide +kernel), List.mem_of_getElem? (i := 1073) (by decide +kernel), List.mem_of_getElem? (i := 1074) (by decide +kernel)⟩
theorem lw_p39 : lw_okq (⟨"HopCreditsModel", "ahead", "()I"⟩, 21) := ⟨⟨by decide +kernel, by decide +kernel⟩, List.mem_of_getElem? (i := 970) (by decide +kernel), List.mem_of_getElem? (i := 1077) (by decide +kernel), List.mem_of_getElem? (i := 1078) (by decide +kernel)⟩
theorem lw_p40 : lw_okq (⟨"HopCreditsModel", "here", "()I"⟩, 21) := ⟨⟨by decide +kernel, by decide +kernel⟩, List.mem_of_getElem? (i := 970) (by decide +kernel), List.mem_of_getElem? (i := 1081) (by decide +kernel), List.mem_of_getElem? (i := 1082) (by decide +kernel)⟩
theorem lw_p41 : lw_okq (⟨"HopCreditsModel", "items", "(I[II)V"⟩, 21) := ⟨⟨by decide +kernel, by decide +kernel⟩, List.mem_of_getElem? (i := 970) (by decide +kernel), List.mem_of_getElem? (i := 1085) (by decide +kernel), List.mem_of_getElem? (i := 1086) (by decide +kernel)⟩
theorem lw_p42 : lw_okq (⟨"HopCreditsModel", "number", "(II)I"⟩, 21) := ⟨⟨by decide +kernel, by decide +kernel⟩, List.mem_of_getElem? (i := 970) (by decide +kernel), List.mem_of_getElem? (i := 1101) (by decide +kernel), List.mem_of_getElem? (i := 1102) (by decide +kernel)⟩
theorem lw_p43 : lw_okq (⟨"HopCreditsModel", "bad", "()V"⟩, 21) := ⟨⟨by decide +kernel, by decide +kernel⟩, List.mem_of_getElem? (i := 970) (by decide +kernel), List.mem_of_getElem? (i := 1108) (by decide +kernel), List.mem_of_getElem? (i := 1109) (by decide +kernel)⟩
theorem lw_p44 : lw_okq (⟨"HopCreditsModel", "laysHop", "(I)V"⟩, 21) := ⟨⟨by decide +kernel, by decide +kernel⟩, List.mem_of_getElem? (i := 970) (by decide +kernel), List.mem_of_getElem? (i := 1116) (by decide +kernel), List.mem_of_getElem? (i := 1117) (by decide +kernel)⟩
theorem lw_p45 : lw_okq (⟨"HopCreditsModel", "pool", "(I)I"⟩, 21) := ⟨⟨by decide +kernel, by decide +kernel⟩, List.mem_of_getElem? (i := 970) (by decide +kernel), List.mem_of_getElem? (i := 1120) (by decide +kernel), List.mem_of_getElem? (i := 1121) (by decide +kernel)⟩
theorem lw_p46 : lw_okq (⟨"HopCreditsModel", "clearsWay", "(II)V"⟩, 21) := ⟨⟨by decide +kernel, by decide +kernel⟩, List.mem_of_getElem? (i := 970) (by decide +kernel), List.mem_of_getElem? (i := 1125) (by decide +kernel), List.mem_of_getElem? (i := 1126) (by decide +kernel)⟩
theorem lw_p47 : lw_okq (⟨"HopCreditsModel", "isNet", "()Z"⟩, 21) := ⟨⟨by decide +kernel, by decide +kernel⟩, List.mem_of_getElem? (i := 970) (by decide +kernel), List.mem_of_getElem? (i := 1142) (by decide +kernel), List.mem_of_getElem? (i := 1143) (by decide +kernel)⟩
def lw_privs_3 : List (MethodName × Nat) := [(⟨"HopCredits", "deliveredByZone", "(IIII)I"⟩, 9), (⟨"HopCredits", "tallyWaits", "(II)V"⟩, 9), (⟨"HopCredits", "sentAlone", "(IIIII)I"⟩, 9), (⟨"java/lang/Throwable", "fillInStackTrace", "(I)Ljava/lang/Throwable;"⟩, 6), (⟨"HopCreditsModel", "readNet", "()I"⟩, 21), (⟨"HopCreditsModel", "laysUsual", "(I[II)V"⟩, 21), (⟨"HopCreditsModel", "clause", "(Z)V"⟩, 21), (⟨"HopCreditsModel", "ahead", "()I"⟩, 21), (⟨"HopCreditsModel", "here", "()I"⟩, 21), (⟨"HopCreditsModel", "items", "(I[II)V"⟩, 21), (⟨"HopCreditsModel", "number", "(II)I"⟩, 21), (⟨"HopCreditsModel", "bad", "()V"⟩, 21), (⟨"HopCreditsModel", "laysHop", "(I)V"⟩, 21), (⟨"HopCreditsModel", "pool", "(I)I"⟩, 21), (⟨"HopCreditsModel", "clearsWay", "(II)V"⟩, 21), (⟨"HopCreditsModel", "isNet", "()Z"⟩, 21)]
theorem lw_r3 : ∀ q ∈ lw_privs_3, lw_okq q := List.forall_mem_cons.mpr ⟨lw_p32, List.forall_mem_cons.mpr ⟨lw_p33, List.forall_mem_cons.mpr ⟨lw_p34, List.forall_mem_cons.mpr ⟨lw_p35, List.forall_mem_cons.mpr ⟨lw_p36, List.forall_mem_cons.mpr ⟨lw_p37, List.forall_mem_cons.mpr ⟨lw_p38, List.forall_mem_cons.mpr ⟨lw_p39, List.forall_mem_cons.mpr ⟨lw_p40, List.forall_mem_cons.mpr ⟨lw_p41, List.forall_mem_cons.mpr ⟨lw_p42, List.forall_mem_cons.mpr ⟨lw_p43, List.forall_mem_cons.mpr ⟨lw_p44, List.forall_mem_cons.mpr ⟨lw_p45, List.forall_mem_cons.mpr ⟨lw_p46, List.forall_mem_cons.mpr ⟨lw_p47, fun _ h => absurd h List.not_mem_nil⟩⟩⟩⟩⟩⟩⟩⟩⟩⟩⟩⟩⟩⟩⟩⟩
theorem lw_p48 : lw_okq (⟨"HopCreditsModel", "refuses", "(I)I"⟩, 21) := ⟨⟨by decide +kernel, by decide +kernel⟩, List.mem_of_getElem? (i := 970) (by decide +kernel), List.mem_of_getElem? (i := 1146) (by decide +kernel), List.mem_of_getElem? (i := 1147) (by decide +kernel)⟩
theorem lw_p49 : lw_okq (⟨"HopCreditsModel", "ticks", "()V"⟩, 21) := ⟨⟨by decide +kernel, by decide +kernel⟩, List.mem_of_getElem? (i := 970) (by decide +kernel), List.mem_of_getElem? (i := 1150) (by decide +kernel), List.mem_of_getElem? (i := 1151) (by decide +kernel)⟩
theorem lw_p50 : lw_okq (⟨"HopCreditsModel", "arrives", "(I)V"⟩, 21) := ⟨⟨by decide +kernel, by decide +kernel⟩, List.mem_of_getElem? (i := 970) (by decide +kernel), List.mem_of_getElem? (i := 1154) (by decide +kernel), List.mem_of_getElem? (i := 1155) (by decide +kernel)⟩
theorem lw_p51 : lw_okq (⟨"HopCreditsModel", "updates", "(II)V"⟩, 21) := ⟨⟨by decide +kernel, by decide +kernel⟩, List.mem_of_getElem? (i := 970) (by decide +kernel), List.mem_of_getElem? (i := 1164) (by decide +kernel), List.mem_of_getElem? (i := 1165) (by decide +kernel)⟩
theorem lw_p52 : lw_okq (⟨"HopCreditsModel", "delay", "(I)I"⟩, 21) := ⟨⟨by decide +kernel, by decide +kernel⟩, List.mem_of_getElem? (i := 970) (by decide +kernel), List.mem_of_getElem? (i := 1168) (by decide +kernel), List.mem_of_getElem? (i := 1169) (by decide +kernel)⟩
theorem lw_p53 : lw_okq (⟨"HopCreditsModel", "comes", "(I)V"⟩, 21) := ⟨⟨by decide +kernel, by decide +kernel⟩, List.mem_of_getElem? (i := 970) (by decide +kernel), List.mem_of_getElem? (i := 1172) (by decide +kernel), List.mem_of_getElem? (i := 1173) (by decide +kernel)⟩
theorem lw_p54 : lw_okq (⟨"HopCreditsModel", "isTaken", "(I)V"⟩, 21) := ⟨⟨by decide +kernel, by decide +kernel⟩, List.mem_of_getElem? (i := 970) (by decide +kernel), List.mem_of_getElem? (i := 1176) (by decide +kernel), List.mem_of_getElem? (i := 1177) (by decide +kernel)⟩
theorem lw_p55 : lw_okq (⟨"HopCreditsModel", "goesFrom", "(II)V"⟩, 21) := ⟨⟨by decide +kernel, by decide +kernel⟩, List.mem_of_getElem? (i := 970) (by decide +kernel), List.mem_of_getElem? (i := 1180) (by decide +kernel), List.mem_of_getElem? (i := 1181) (by decide +kernel)⟩
theorem lw_p56 : lw_okq (⟨"HopCreditsModel", "sends", "(I)V"⟩, 21) := ⟨⟨by decide +kernel, by decide +kernel⟩, List.mem_of_getElem? (i := 970) (by decide +kernel), List.mem_of_getElem? (i := 1184) (by decide +kernel), List.mem_of_getElem? (i := 1185) (by decide +kernel)⟩
theorem lw_p57 : lw_okq (⟨"HopCreditsModel", "sender", "(I)I"⟩, 21) := ⟨⟨by decide +kernel, by decide +kernel⟩, List.mem_of_getElem? (i := 970) (by decide +kernel), List.mem_of_getElem? (i := 1188) (by decide +kernel), List.mem_of_getElem? (i := 1189) (by decide +kernel)⟩
theorem lw_p58 : lw_okq (⟨"HopCreditsModel", "credit", "(II)I"⟩, 21) := ⟨⟨by decide +kernel, by decide +kernel⟩, List.mem_of_getElem? (i := 970) (by decide +kernel), List.mem_of_getElem? (i := 1192) (by decide +kernel), List.mem_of_getElem? (i := 1193) (by decide +kernel)⟩
theorem lw_p59 : lw_okq (⟨"HopCreditsModel", "outOf", "(II)I"⟩, 21) := ⟨⟨by decide +kernel, by decide +kernel⟩, List.mem_of_getElem? (i := 970) (by decide +kernel), List.mem_of_getElem? (i := 1196) (by decide +kernel), List.mem_of_getElem? (i := 1197) (by decide +kernel)⟩
theorem lw_p60 : lw_okq (⟨"HopCreditsModel", "waits", "(I)V"⟩, 21) := ⟨⟨by decide +kernel, by decide +kernel⟩, List.mem_of_getElem? (i := 970) (by decide +kernel), List.mem_of_getElem? (i := 1200) (by decide +kernel), List.mem_of_getElem? (i := 1201) (by decide +kernel)⟩
theorem lw_p61 : lw_okq (⟨"HopCreditsModel", "isHeld", "(II)Z"⟩, 21) := ⟨⟨by decide +kernel, by decide +kernel⟩, List.mem_of_getElem? (i := 970) (by decide +kernel), List.mem_of_getElem? (i := 1204) (by decide +kernel), List.mem_of_getElem? (i := 1205) (by decide +kernel)⟩
theorem lw_p62 : lw_okq (⟨"HopCreditsModel", "probes", "(II)V"⟩, 21) := ⟨⟨by decide +kernel, by decide +kernel⟩, List.mem_of_getElem? (i := 970) (by decide +kernel), List.mem_of_getElem? (i := 1208) (by decide +kernel), List.mem_of_getElem? (i := 1209) (by decide +kernel)⟩
theorem lw_p63 : lw_okq (⟨"HopCreditsModel", "adapts", "(I)V"⟩, 21) := ⟨⟨by decide +kernel, by decide +kernel⟩, List.mem_of_getElem? (i := 970) (by decide +kernel), List.mem_of_getElem? (i := 1212) (by decide +kernel), List.mem_of_getElem? (i := 1213) (by decide +kernel)⟩
def lw_privs_4 : List (MethodName × Nat) := [(⟨"HopCreditsModel", "refuses", "(I)I"⟩, 21), (⟨"HopCreditsModel", "ticks", "()V"⟩, 21), (⟨"HopCreditsModel", "arrives", "(I)V"⟩, 21), (⟨"HopCreditsModel", "updates", "(II)V"⟩, 21), (⟨"HopCreditsModel", "delay", "(I)I"⟩, 21), (⟨"HopCreditsModel", "comes", "(I)V"⟩, 21), (⟨"HopCreditsModel", "isTaken", "(I)V"⟩, 21), (⟨"HopCreditsModel", "goesFrom", "(II)V"⟩, 21), (⟨"HopCreditsModel", "sends", "(I)V"⟩, 21), (⟨"HopCreditsModel", "sender", "(I)I"⟩, 21), (⟨"HopCreditsModel", "credit", "(II)I"⟩, 21), (⟨"HopCreditsModel", "outOf", "(II)I"⟩, 21), (⟨"HopCreditsModel", "waits", "(I)V"⟩, 21), (⟨"HopCreditsModel", "isHeld", "(II)Z"⟩, 21), (⟨"HopCreditsModel", "probes", "(II)V"⟩, 21), (⟨"HopCreditsModel", "adapts", "(I)V"⟩, 21)]
theorem lw_r4 : ∀ q ∈ lw_privs_4, lw_okq q := List.forall_mem_cons.mpr ⟨lw_p48, List.forall_mem_cons.mpr ⟨lw_p49, List.forall_mem_cons.mpr ⟨lw_p50, List.forall_mem_cons.mpr ⟨lw_p51, List.forall_mem_cons.mpr ⟨lw_p52, List.forall_mem_cons.mpr ⟨lw_p53, List.forall_mem_cons.mpr ⟨lw_p54, List.forall_mem_cons.mpr ⟨lw_p55, List.forall_mem_cons.mpr ⟨lw_p56, List.forall_mem_cons.mpr ⟨lw_p57, List.forall_mem_cons.mpr ⟨lw_p58, List.forall_mem_cons.mpr ⟨lw_p59, List.forall_mem_cons.mpr ⟨lw_p60, List.forall_mem_cons.mpr ⟨lw_p61, List.forall_mem_cons.mpr ⟨lw_p62, List.forall_mem_cons.mpr ⟨lw_p63, fun _ h => absurd h List.not_mem_nil⟩⟩⟩⟩⟩⟩⟩⟩⟩⟩⟩⟩⟩⟩⟩⟩
theorem lw_p64 : lw_okq (⟨"HopCreditsModel", "aimOf", "(II)I"⟩, 21) := ⟨⟨by decide +kernel, by decide +kernel⟩, List.mem_of_getElem? (i := 970) (by decide +kernel), List.mem_of_getElem? (i := 1216) (by decide +kernel), List.mem_of_getElem? (i := 1217) (by decide +kernel)⟩
theorem lw_p65 : lw_okq (⟨"HopCreditsModel", "leftFor", "(II)I"⟩, 21) := ⟨⟨by decide +kernel, by decide +kernel⟩, List.mem_of_getElem? (i := 970) (by decide +kernel), List.mem_of_getElem? (i := 1221) (by decide +kernel), List.mem_of_getElem? (i := 1222) (by decide +kernel)⟩
theorem lw_p66 : lw_okq (⟨"HopCreditsModel", "isHop", "(I)Z"⟩, 21) := ⟨⟨by decide +kernel, by decide +kernel⟩, List.mem_of_getElem? (i := 970) (by decide +kernel), List.mem_of_getElem? (i := 1229) (by decide +kernel), List.mem_of_getElem? (i := 1230) (by decide +kernel)⟩
theorem lw_p67 : lw_okq (⟨"HopCreditsModel", "isCircuit", "(I)Z"⟩, 21) := ⟨⟨by decide +kernel, by decide +kernel⟩, List.mem_of_getElem? (i := 970) (by decide +kernel), List.mem_of_getElem? (i := 1237) (by decide +kernel), List.mem_of_getElem? (i := 1238) (by decide +kernel)⟩
theorem lw_p68 : lw_okq (⟨"HopCreditsModel", "whyZone", "(III)I"⟩, 21) := ⟨⟨by decide +kernel, by decide +kernel⟩, List.mem_of_getElem? (i := 970) (by decide +kernel), List.mem_of_getElem? (i := 1249) (by decide +kernel), List.mem_of_getElem? (i := 1250) (by decide +kernel)⟩
theorem lw_p69 : lw_okq (⟨"HopCreditsModel", "isLane", "(II)Z"⟩, 21) := ⟨⟨by decide +kernel, by decide +kernel⟩, List.mem_of_getElem? (i := 970) (by decide +kernel), List.mem_of_getElem? (i := 1253) (by decide +kernel), List.mem_of_getElem? (i := 1254) (by decide +kernel)⟩
theorem lw_p70 : lw_okq (⟨"HopCreditsModel", "cellsOn", "(II)I"⟩, 21) := ⟨⟨by decide +kernel, by decide +kernel⟩, List.mem_of_getElem? (i := 970) (by decide +kernel), List.mem_of_getElem? (i := 1274) (by decide +kernel), List.mem_of_getElem? (i := 1275) (by decide +kernel)⟩
theorem lw_p71 : lw_okq (⟨"HopCreditsModel", "toldOn", "(IZ)I"⟩, 21) := ⟨⟨by decide +kernel, by decide +kernel⟩, List.mem_of_getElem? (i := 970) (by decide +kernel), List.mem_of_getElem? (i := 1278) (by decide +kernel), List.mem_of_getElem? (i := 1279) (by decide +kernel)⟩
theorem lw_p72 : lw_okq (⟨"HopCreditsModel", "anywhere", "(I)I"⟩, 21) := ⟨⟨by decide +kernel, by decide +kernel⟩, List.mem_of_getElem? (i := 970) (by decide +kernel), List.mem_of_getElem? (i := 1286) (by decide +kernel), List.mem_of_getElem? (i := 1287) (by decide +kernel)⟩
theorem lw_p73 : lw_okq (⟨"HopCreditsModel", "laneNow", "(III)I"⟩, 21) := ⟨⟨by decide +kernel, by decide +kernel⟩, List.mem_of_getElem? (i := 970) (by decide +kernel), List.mem_of_getElem? (i := 1294) (by decide +kernel), List.mem_of_getElem? (i := 1295) (by decide +kernel)⟩
theorem lw_p74 : lw_okq (⟨"HopCreditsModel", "isNode", "(I)Z"⟩, 21) := ⟨⟨by decide +kernel, by decide +kernel⟩, List.mem_of_getElem? (i := 970) (by decide +kernel), List.mem_of_getElem? (i := 1302) (by decide +kernel), List.mem_of_getElem? (i := 1303) (by decide +kernel)⟩
theorem lw_p75 : lw_okq (⟨"HopCreditsModel", "putAside", "()V"⟩, 21) := ⟨⟨by decide +kernel, by decide +kernel⟩, List.mem_of_getElem? (i := 970) (by decide +kernel), List.mem_of_getElem? (i := 1317) (by decide +kernel), List.mem_of_getElem? (i := 1318) (by decide +kernel)⟩
theorem lw_p76 : lw_okq (⟨"HopCreditsModel", "goesOn", "(I)V"⟩, 21) := ⟨⟨by decide +kernel, by decide +kernel⟩, List.mem_of_getElem? (i := 970) (by decide +kernel), List.mem_of_getElem? (i := 1321) (by decide +kernel), List.mem_of_getElem? (i := 1322) (by decide +kernel)⟩
theorem lw_p77 : lw_okq (⟨"HopCreditsModel", "bringBack", "()V"⟩, 21) := ⟨⟨by decide +kernel, by decide +kernel⟩, List.mem_of_getElem? (i := 970) (by decide +kernel), List.mem_of_getElem? (i := 1325) (by decide +kernel), List.mem_of_getElem? (i := 1326) (by decide +kernel)⟩
theorem lw_p78 : lw_okq (⟨"HopCreditsModel", "deliveredIn", "(II)I"⟩, 21) := ⟨⟨by decide +kernel, by decide +kernel⟩, List.mem_of_getElem? (i := 970) (by decide +kernel), List.mem_of_getElem? (i := 1337) (by decide +kernel), List.mem_of_getElem? (i := 1338) (by decide +kernel)⟩
theorem lw_p79 : lw_okq (⟨"HopCreditsModel", "deliveredOf", "(I)I"⟩, 21) := ⟨⟨by decide +kernel, by decide +kernel⟩, List.mem_of_getElem? (i := 970) (by decide +kernel), List.mem_of_getElem? (i := 1341) (by decide +kernel), List.mem_of_getElem? (i := 1342) (by decide +kernel)⟩
def lw_privs_5 : List (MethodName × Nat) := [(⟨"HopCreditsModel", "aimOf", "(II)I"⟩, 21), (⟨"HopCreditsModel", "leftFor", "(II)I"⟩, 21), (⟨"HopCreditsModel", "isHop", "(I)Z"⟩, 21), (⟨"HopCreditsModel", "isCircuit", "(I)Z"⟩, 21), (⟨"HopCreditsModel", "whyZone", "(III)I"⟩, 21), (⟨"HopCreditsModel", "isLane", "(II)Z"⟩, 21), (⟨"HopCreditsModel", "cellsOn", "(II)I"⟩, 21), (⟨"HopCreditsModel", "toldOn", "(IZ)I"⟩, 21), (⟨"HopCreditsModel", "anywhere", "(I)I"⟩, 21), (⟨"HopCreditsModel", "laneNow", "(III)I"⟩, 21), (⟨"HopCreditsModel", "isNode", "(I)Z"⟩, 21), (⟨"HopCreditsModel", "putAside", "()V"⟩, 21), (⟨"HopCreditsModel", "goesOn", "(I)V"⟩, 21), (⟨"HopCreditsModel", "bringBack", "()V"⟩, 21), (⟨"HopCreditsModel", "deliveredIn", "(II)I"⟩, 21), (⟨"HopCreditsModel", "deliveredOf", "(I)I"⟩, 21)]
theorem lw_r5 : ∀ q ∈ lw_privs_5, lw_okq q := List.forall_mem_cons.mpr ⟨lw_p64, List.forall_mem_cons.mpr ⟨lw_p65, List.forall_mem_cons.mpr ⟨lw_p66, List.forall_mem_cons.mpr ⟨lw_p67, List.forall_mem_cons.mpr ⟨lw_p68, List.forall_mem_cons.mpr ⟨lw_p69, List.forall_mem_cons.mpr ⟨lw_p70, List.forall_mem_cons.mpr ⟨lw_p71, List.forall_mem_cons.mpr ⟨lw_p72, List.forall_mem_cons.mpr ⟨lw_p73, List.forall_mem_cons.mpr ⟨lw_p74, List.forall_mem_cons.mpr ⟨lw_p75, List.forall_mem_cons.mpr ⟨lw_p76, List.forall_mem_cons.mpr ⟨lw_p77, List.forall_mem_cons.mpr ⟨lw_p78, List.forall_mem_cons.mpr ⟨lw_p79, fun _ h => absurd h List.not_mem_nil⟩⟩⟩⟩⟩⟩⟩⟩⟩⟩⟩⟩⟩⟩⟩⟩
theorem lw_p80 : lw_okq (⟨"HopCreditsModel", "idleOf", "(II)I"⟩, 21) := ⟨⟨by decide +kernel, by decide +kernel⟩, List.mem_of_getElem? (i := 970) (by decide +kernel), List.mem_of_getElem? (i := 1353) (by decide +kernel), List.mem_of_getElem? (i := 1354) (by decide +kernel)⟩
theorem lw_p81 : lw_okq (⟨"HopCreditsModel", "sentOver", "(I)I"⟩, 21) := ⟨⟨by decide +kernel, by decide +kernel⟩, List.mem_of_getElem? (i := 970) (by decide +kernel), List.mem_of_getElem? (i := 1357) (by decide +kernel), List.mem_of_getElem? (i := 1358) (by decide +kernel)⟩
theorem lw_p82 : lw_okq (⟨"HopCreditsModel", "there", "(III)I"⟩, 21) := ⟨⟨by decide +kernel, by decide +kernel⟩, List.mem_of_getElem? (i := 970) (by decide +kernel), List.mem_of_getElem? (i := 1369) (by decide +kernel), List.mem_of_getElem? (i := 1370) (by decide +kernel)⟩
theorem lw_p83 : lw_okq (⟨"HopCreditsModel", "unknown", "()I"⟩, 21) := ⟨⟨by decide +kernel, by decide +kernel⟩, List.mem_of_getElem? (i := 970) (by decide +kernel), List.mem_of_getElem? (i := 1377) (by decide +kernel), List.mem_of_getElem? (i := 1378) (by decide +kernel)⟩
theorem lw_p84 : lw_okq (⟨"HopCreditsModel", "ticksStill", "()V"⟩, 21) := ⟨⟨by decide +kernel, by decide +kernel⟩, List.mem_of_getElem? (i := 970) (by decide +kernel), List.mem_of_getElem? (i := 1381) (by decide +kernel), List.mem_of_getElem? (i := 1382) (by decide +kernel)⟩
theorem lw_p85 : lw_okq (⟨"HopCreditsModel", "lossOf", "(II)I"⟩, 21) := ⟨⟨by decide +kernel, by decide +kernel⟩, List.mem_of_getElem? (i := 970) (by decide +kernel), List.mem_of_getElem? (i := 1389) (by decide +kernel), List.mem_of_getElem? (i := 1390) (by decide +kernel)⟩
theorem lw_p86 : lw_okq (⟨"HopCreditsModel", "deliveredJammed", "(II)I"⟩, 21) := ⟨⟨by decide +kernel, by decide +kernel⟩, List.mem_of_getElem? (i := 970) (by decide +kernel), List.mem_of_getElem? (i := 1393) (by decide +kernel), List.mem_of_getElem? (i := 1394) (by decide +kernel)⟩
theorem lw_p87 : lw_okq (⟨"HopCreditsModel", "cellsAnywhere", "()I"⟩, 21) := ⟨⟨by decide +kernel, by decide +kernel⟩, List.mem_of_getElem? (i := 970) (by decide +kernel), List.mem_of_getElem? (i := 1413) (by decide +kernel), List.mem_of_getElem? (i := 1414) (by decide +kernel)⟩
theorem lw_p88 : lw_okq (⟨"HopCreditsModel", "deliveredByZone", "(IIII)I"⟩, 21) := ⟨⟨by decide +kernel, by decide +kernel⟩, List.mem_of_getElem? (i := 970) (by decide +kernel), List.mem_of_getElem? (i := 1421) (by decide +kernel), List.mem_of_getElem? (i := 1422) (by decide +kernel)⟩
theorem lw_p89 : lw_okq (⟨"HopCreditsModel", "waitsOf", "(III)I"⟩, 21) := ⟨⟨by decide +kernel, by decide +kernel⟩, List.mem_of_getElem? (i := 970) (by decide +kernel), List.mem_of_getElem? (i := 1433) (by decide +kernel), List.mem_of_getElem? (i := 1434) (by decide +kernel)⟩
theorem lw_p90 : lw_okq (⟨"HopCreditsModel", "aloneSent", "(IIIII)I"⟩, 21) := ⟨⟨by decide +kernel, by decide +kernel⟩, List.mem_of_getElem? (i := 970) (by decide +kernel), List.mem_of_getElem? (i := 1448) (by decide +kernel), List.mem_of_getElem? (i := 1449) (by decide +kernel)⟩
theorem lw_p91 : lw_okq (⟨"HopCreditsModel", "roomFor", "(II)I"⟩, 21) := ⟨⟨by decide +kernel, by decide +kernel⟩, List.mem_of_getElem? (i := 970) (by decide +kernel), List.mem_of_getElem? (i := 1468) (by decide +kernel), List.mem_of_getElem? (i := 1469) (by decide +kernel)⟩
def lw_privs_6 : List (MethodName × Nat) := [(⟨"HopCreditsModel", "idleOf", "(II)I"⟩, 21), (⟨"HopCreditsModel", "sentOver", "(I)I"⟩, 21), (⟨"HopCreditsModel", "there", "(III)I"⟩, 21), (⟨"HopCreditsModel", "unknown", "()I"⟩, 21), (⟨"HopCreditsModel", "ticksStill", "()V"⟩, 21), (⟨"HopCreditsModel", "lossOf", "(II)I"⟩, 21), (⟨"HopCreditsModel", "deliveredJammed", "(II)I"⟩, 21), (⟨"HopCreditsModel", "cellsAnywhere", "()I"⟩, 21), (⟨"HopCreditsModel", "deliveredByZone", "(IIII)I"⟩, 21), (⟨"HopCreditsModel", "waitsOf", "(III)I"⟩, 21), (⟨"HopCreditsModel", "aloneSent", "(IIIII)I"⟩, 21), (⟨"HopCreditsModel", "roomFor", "(II)I"⟩, 21)]
theorem lw_r6 : ∀ q ∈ lw_privs_6, lw_okq q := List.forall_mem_cons.mpr ⟨lw_p80, List.forall_mem_cons.mpr ⟨lw_p81, List.forall_mem_cons.mpr ⟨lw_p82, List.forall_mem_cons.mpr ⟨lw_p83, List.forall_mem_cons.mpr ⟨lw_p84, List.forall_mem_cons.mpr ⟨lw_p85, List.forall_mem_cons.mpr ⟨lw_p86, List.forall_mem_cons.mpr ⟨lw_p87, List.forall_mem_cons.mpr ⟨lw_p88, List.forall_mem_cons.mpr ⟨lw_p89, List.forall_mem_cons.mpr ⟨lw_p90, List.forall_mem_cons.mpr ⟨lw_p91, fun _ h => absurd h List.not_mem_nil⟩⟩⟩⟩⟩⟩⟩⟩⟩⟩⟩⟩
def lw_privs : List (MethodName × Nat) := lw_privs_1 ++ (lw_privs_2 ++ (lw_privs_3 ++ (lw_privs_4 ++ (lw_privs_5 ++ (lw_privs_6)))))
def lw_tbl : List Cond := k2_sels lw_privs ++ tables_1
theorem lw_privs_ok : ∀ q ∈ lw_privs, lw_okq q := by
  show ∀ q ∈ lw_privs_1 ++ (lw_privs_2 ++ (lw_privs_3 ++ (lw_privs_4 ++ (lw_privs_5 ++ (lw_privs_6))))), lw_okq q
  exact List.forall_mem_append.mpr ⟨lw_r1, List.forall_mem_append.mpr ⟨lw_r2, List.forall_mem_append.mpr ⟨lw_r3, List.forall_mem_append.mpr ⟨lw_r4, List.forall_mem_append.mpr ⟨lw_r5, lw_r6⟩⟩⟩⟩⟩
end
section
/-! ===== BEGIN words of one list among another's, by their places ===== -/
theorem goodIn_r {big : List Cond} (ws : List Cond) (ps : List Nat) (hp : ws = ps.filterMap (fun i => big[i]?)) (h : ws.all goodWord = true) : GoodIn big ws := by
  intro w hw
  have h1 := List.all_eq_true.mp h w hw
  rw [hp] at hw
  obtain ⟨i, -, hi⟩ := List.mem_filterMap.mp hw
  have hm : w ∈ big := by first | exact List.mem_of_getElem? hi | exact List.getElem?_mem hi
  exact ⟨hm, good_of_word h1⟩
theorem goodIn_app {big a b : List Cond} (ha : GoodIn big a) (hb : GoodIn big b) : GoodIn big (a ++ b) := fun w h => (List.mem_append.mp h).elim (ha w) (hb w)
theorem goodIn_ca {big a b : List Cond} {c : Cond} (ha : GoodIn big (c :: a)) (hb : GoodIn big b) : GoodIn big (c :: (a ++ b)) := fun w h => (List.mem_cons.mp h).elim (fun e => ha w (List.mem_cons.mpr (Or.inl e))) (fun h => (List.mem_append.mp h).elim (fun h => ha w (List.mem_cons.mpr (Or.inr h))) (hb w))
theorem goodIn_sub {big ws : List Cond} (hm : ∀ w ∈ ws, w ∈ big) (h : ws.all goodWord = true) : GoodIn big ws := fun w hw => ⟨hm w hw, good_of_word (List.all_eq_true.mp h w hw)⟩
/-! ===== END ===== -/

/-! ===== BEGIN exceptions that leave a method, and their catching by the caller (launches without stack traces) ===== -/
section VXA
/-! The laws vx_back, vx_callV, vx_callS, vx_callSW, vx_throw0, vx_throwS follow proofs of the library, with one case more: JvmDerived/Free/Laws.lean (Back.of_free), Shelf42/LK1.lean (callV, callS), Shelf/KitTraced.lean (throwNew0V, throwNewS). -/
/-- where a method has thrown q: the class by its name, the cell, what was written, the world -/
def vx_T (XC : String → State → State → Prop) (st : State) (q : Addr) (t : State) (mc ms : Nat) (free : Addr → Prop) : Prop :=
  ∃ (E : String) (ce : Cell) (L : List Loc), XC E st t ∧ t.heap[q]? = some ce ∧ ce.vm = .none ∧ st.vm.findClass E = some ce.cls ∧ st.WarmedH t.vm ∧ st.sameButNew ({ t with vm := st.vm } : State) L mc ms ∧ ∀ z ∈ L, free z.base
def vx_Q (Qc : Array Value → State → Outcome → State → Prop) (XC : String → State → State → Prop) (mc ms : Nat) (free : Addr → Prop) : Array Value → State → Outcome → State → Prop := fun a st o t =>
  (Qc a st o t ∧ ∃ L, FrameEnd st o t L mc ms ∧ ∀ q ∈ L, free q.base) ∨ ∃ q, o = .threw q ∧ vx_T XC st q t mc ms free
/-- a callee that returns or throws -/
def vx_Met (l : Launch) (y : MethodName) (ws : List Cond) (rm : Room) (Pc : Array Value → State → Prop) (Qc : Array Value → State → Outcome → State → Prop) (XC : String → State → State → Prop) (mc ms : Nat) (free : Addr → Prop) : Prop :=
  MetFree l y (headSpec ws rm) Pc (fun _ _ _ _ _ => True) (vx_Q Qc XC mc ms free)
def vx_Post (XC : String → State → State → Prop) (mc ms : Nat) (free : Addr → Prop) : Pt → Array Value → Addr → Pt → Prop := fun A a q B =>
  ∃ (g : JFrame) (mk : MethodId) (t : State) (L : List Loc) (E : String) (ce : Cell), B.U.heap = t.heap ∧ B.U.vm = t.vm ∧ XC E (A.U.calling g mk a) t ∧ t.heap[q]? = some ce ∧ ce.vm = .none ∧ A.U.vm.findClass E = some ce.cls ∧ B.locs = A.locs ++ L ∧ (∀ z ∈ L, free z.base) ∧ B.cells = A.cells + mc ∧ B.slots = A.slots + ms
def vx_Back (l : Launch) (R : Room) (p : Program) (e : Env) (below : List Frame) (s : State) (sargs : Array Value) (y : MethodName) (len W9 : Nat)
    (Pre : Pt → Array Value → Prop) (Post : Pt → Array Value → Option Value → Pt → Prop) (PostX : Pt → Array Value → Addr → Pt → Prop) : Prop :=
  ∀ (m : MethodId) (meth : Method) (c : Code) (A : Pt) (g : JFrame) (ig : Instr) (mk : MethodId) (a : Array Value),
    Stand p l e R s m sargs below meth c A.U A.locs A.cells A.slots → g.method = m → g.locals.size = c.maxLocals → decode c.code g.pc = .ok (ig, len) →
    2 * g.monitorRoom + (g.stack.map fun v => v.category).sum ≤ W9 → A.U.methodNamed? y = some mk → Pre A a →
    (∃ (v : Option Value) (B : Pt), Stand p l e R s m sargs below meth c B.U B.locs B.cells B.slots ∧ Post A a v B ∧
      Steps p.tables e below (doInvoke e (A.U.setTop g) [] mk a).1 (B.U.setTop { g with pc := g.pc + len, stack := v.toList ++ g.stack })) ∨
    (∃ (q : Addr) (B : Pt), Stand p l e R s m sargs below meth c B.U B.locs B.cells B.slots ∧ PostX A a q B ∧
      Steps p.tables e below (doInvoke e (A.U.setTop g) [] mk a).1 ((B.U.setTop g).pushFrame (.throwing q)))
section Payer
variable {l : Launch} {R : Room} {p : Program} {e : Env} {below : List Frame} {s : State} {sargs : Array Value} {y : MethodName} {len W9 : Nat}
theorem vx_back {ws : List Cond} {rm : Room} {Pc : Array Value → State → Prop} {Qc : Array Value → State → Outcome → State → Prop} {XC : String → State → State → Prop} {mc ms : Nat} {free : Addr → Prop} {bytes : ByteArray} {maxL : Nat} {ret : Option FieldType}
    (hM : vx_Met l y ws rm Pc Qc XC mc ms free) (hblind : FrameBlind Pc) (hrc : rm.cells = mc) (hrs : rm.slots = ms)
    (hframes : rm.frames + 1 ≤ R.frames) (hlocals : W9 + (maxL + 11) + rm.locals ≤ R.locals)
    (hws : ∀ w ∈ ws, ∀ a' U, s.WarmedH U.vm → w.before a' U = true) (hcode : Cond.code y bytes maxL ret ∈ ws) (hinit : ∀ a' U, s.WarmedH U.vm → (Cond.initialized y.cls).before a' U = true) :
    vx_Back l R p e below s sargs y len W9 (PreOf R mc ms Pc) (PostOf Qc mc ms free) (vx_Post XC mc ms free) := by
  intro m meth c A g ig mk a X hg hsize hdg hW hn hp
  have h1 : (headSpec ws rm).pre.before a A.U = true := atoms_intro fun w hw => hws w hw _ _ X.warmed
  have h2 : (Cond.code y bytes maxL ret).before a A.U = true := hws _ hcode _ _ X.warmed
  have h3 : (Cond.initialized y.cls).before a A.U = true := hinit _ _ X.warmed
  have h4 : A.cells + (headSpec ws rm).room.cells ≤ R.cells := by rw [show (headSpec ws rm).room.cells = mc from hrc]; exact hp.1
  have h5 : A.slots + (headSpec ws rm).room.slots ≤ R.slots := by rw [show (headSpec ws rm).room.slots = ms from hrs]; exact hp.2.1
  have hPc : Pc a (A.U.calling g mk a) := hblind _ _ _ _ hp.2.2
  obtain ⟨U, Ls, c0, s0⟩ := A
  dsimp only [Pt.U, Pt.locs, Pt.cells, Pt.slots] at h1 h2 h3 h4 h5 X hn hPc ⊢
  obtain ⟨methY, cY, hmY, hcY, -, hlY, -, -, -, -⟩ := Cond.code_spec hn h2
  obtain ⟨kY, hkY, -⟩ := className_of_methodNamed hn
  have hinitY : kY.init = .initialized := Cond.initialized_spec (findClass_of_methodNamed hn) hkY h3
  have h : At U g.method c below := by rw [hg]; exact X.here
  have hlocals9 : W9 + (maxL + 11) + (headSpec ws rm).room.locals ≤ R.locals := hlocals
  have happ : (headSpec ws rm).appliesLoose y e.platform (U.calling g mk a) = true :=
    Spec.appliesLoose_calling (g := g) h hdg hn hkY hinitY
      (X.room_calling (g := g) (R' := (headSpec ws rm).room) hsize hmY hcY hframes (by rw [hlY]; omega) h4 h5) h1
  obtain ⟨mid, hmid⟩ := h.above
  have hfr : (U.setTop g).frames = (.java g :: mid) ++ below := by rw [State.frames_setTop' g h.top, hmid]; rfl
  obtain ⟨o, s₂, hsteps, -, hend, hq⟩ := Steps.callFree hM p X.admits X.cas X.clock (acts := []) hfr happ hPc trivial
  have hq' : vx_Q Qc XC mc ms free a (U.calling g mk a) o s₂ := hq
  rw [State.frames_setTop' g h.top] at hend
  obtain ⟨g₀, hg0⟩ := Option.isSome_iff_exists.mp h.top
  obtain ⟨r, hr⟩ := State.topJava?_eq_some.mp hg0
  have hr' : (({ U with heap := s₂.heap, slotsUsed := s₂.slotsUsed } : State).setVm s₂.vm).frames = .java g₀ :: r := hr
  rcases hq' with ⟨hqc, L, hfe, hL⟩ | ⟨q, rfl, E, ce, L, hx, hce, hcv, hcl, hW₂, hsm, hL⟩
  · obtain ⟨⟨v, rfl⟩, hW₂, e2, q2, q3, q4, q5, q6⟩ := id hfe
    have e3 : s₂ = ({ (U.calling g mk a).setFrames s₂.frames with heap := s₂.heap, slotsUsed := s₂.slotsUsed } : State).setVm s₂.vm := by
      have : s₂ = ({ s₂ with vm := (U.calling g mk a).vm } : State).setVm s₂.vm := rfl
      rw [e2] at this
      exact this
    obtain ⟨c₂, i₂, len₂, hc₂, hd₂, hf₂⟩ := hend
    have hW' : U.WarmedH s₂.vm := hW₂
    have hcc : c₂ = c := by
      have h1 : s₂.code? g.method = U.code? g.method := by
        rw [State.code?_eq, State.code?_eq, hW'.alike.method?]
      exact Option.some.inj (hc₂.symm.trans (h1.trans h.code))
    subst hcc
    have hlen : len₂ = len := by rw [hdg] at hd₂; cases hd₂; rfl
    subst hlen
    have hs₂ : s₂ = (({ U with heap := s₂.heap, slotsUsed := s₂.slotsUsed } : State).setVm s₂.vm).setTop { g with pc := g.pc + len₂, stack := v.toList ++ g.stack } := by
      refine e3.trans ?_
      rw [hf₂, State.calling_eq h.top, State.setFrames_setFrames, State.setTop_of_frames _ hr', hr]
      rfl
    have hsame : U.sameButNew ({ U with heap := s₂.heap, slotsUsed := s₂.slotsUsed } : State) L mc ms := by
      refine ⟨?_, q2, q3, q4, q5, q6⟩
      obtain ⟨t, ht, -⟩ := State.frames_cons hr
      show ({ U with heap := s₂.heap, slotsUsed := s₂.slotsUsed } : State) = { U.setFrames U.frames with heap := s₂.heap, slotsUsed := s₂.slotsUsed }
      rw [State.setFrames_self ht]
    subst hg
    refine Or.inl ⟨v, ⟨(({ U with heap := s₂.heap, slotsUsed := s₂.slotsUsed } : State).setVm s₂.vm), Ls ++ L, c0 + mc, s0 + ms⟩,
      ⟨X.admits, X.cas, X.clock, X.frames, X.room, X.hears, X.method, X.code, (X.here.setHeapUsed s₂.heap s₂.slotsUsed).setVm hW'.alike, X.tail, State.WarmedH.trans X.warmed hW', X.limits, X.bytes, X.same.trans (hsame.setVm s.vm)⟩,
      ⟨g, mk, s₂, L, rfl, rfl, hqc, rfl, hL, rfl, rfl⟩, ?_⟩
    show Steps p.tables e below _ ((({ U with heap := s₂.heap, slotsUsed := s₂.slotsUsed } : State).setVm s₂.vm).setTop { g with pc := g.pc + len₂, stack := v.toList ++ g.stack })
    rw [← hs₂]
    exact hsteps
  · obtain ⟨e2, q2, q3, q4, q5, q6⟩ := id hsm
    have e3 : s₂ = ({ (U.calling g mk a).setFrames s₂.frames with heap := s₂.heap, slotsUsed := s₂.slotsUsed } : State).setVm s₂.vm := by
      have : s₂ = ({ s₂ with vm := (U.calling g mk a).vm } : State).setVm s₂.vm := rfl
      rw [e2] at this
      exact this
    have hf₂ : s₂.frames = .throwing q :: .java g :: U.frames.tail := hend
    have hW' : U.WarmedH s₂.vm := hW₂
    have hs₂ : s₂ = ((({ U with heap := s₂.heap, slotsUsed := s₂.slotsUsed } : State).setVm s₂.vm).setTop g).pushFrame (.throwing q) := by
      refine e3.trans ?_
      rw [hf₂, State.calling_eq h.top, State.setFrames_setFrames, State.pushFrame, State.frames_setTop _ hr', State.setTop_of_frames _ hr', State.setFrames_setFrames, hr]
      rfl
    have hsame : U.sameButNew ({ U with heap := s₂.heap, slotsUsed := s₂.slotsUsed } : State) L mc ms := by
      refine ⟨?_, q2, q3, q4, q5, q6⟩
      obtain ⟨t, ht, -⟩ := State.frames_cons hr
      show ({ U with heap := s₂.heap, slotsUsed := s₂.slotsUsed } : State) = { U.setFrames U.frames with heap := s₂.heap, slotsUsed := s₂.slotsUsed }
      rw [State.setFrames_self ht]
    subst hg
    refine Or.inr ⟨q, ⟨(({ U with heap := s₂.heap, slotsUsed := s₂.slotsUsed } : State).setVm s₂.vm), Ls ++ L, c0 + mc, s0 + ms⟩,
      ⟨X.admits, X.cas, X.clock, X.frames, X.room, X.hears, X.method, X.code, (X.here.setHeapUsed s₂.heap s₂.slotsUsed).setVm hW'.alike, X.tail, State.WarmedH.trans X.warmed hW', X.limits, X.bytes, X.same.trans (hsame.setVm s.vm)⟩,
      ⟨g, mk, s₂, L, E, ce, rfl, rfl, hx, hce, hcv, hcl, rfl, hL, rfl, rfl⟩, ?_⟩
    show Steps p.tables e below _ (((({ U with heap := s₂.heap, slotsUsed := s₂.slotsUsed } : State).setVm s₂.vm).setTop g).pushFrame (.throwing q))
    rw [← hs₂]
    exact hsteps
end Payer
section Calls
variable {p : Program} {l : Launch} {e : Env} {R : Room} {s : State} {m : MethodId} {args : Array Value} {below : List Frame} {meth : Method} {c : Code} {T : State} {locs : List Loc} {cells slots : Nat}
theorem vx_callV (X : Stand p l e R s m args below meth c T locs cells slots) (hexec : p.tables.exec = Jvm.exec) {own C : String} {index : Nat} {y : MethodName} {bytes : ByteArray} {maxL : Nat} {ret : Option FieldType}
    (hown : s.vm.findClass own = some m.cls) (hlink : (Cond.methodLink own index y).before args s = true) (hinst : (Cond.instanceMethod y).before args s = true) (hsel : (Cond.selects C y y).before args s = true)
    (hcode : (Cond.code y bytes maxL ret).before args s = true) (hy : y.cls ≠ "java/lang/invoke/MethodHandle" ∧ y.cls ≠ "java/lang/invoke/VarHandle")
    {W9 : Nat} {Pre : Pt → Array Value → Prop} {Post : Pt → Array Value → Option Value → Pt → Prop} {PostX : Pt → Array Value → Addr → Pt → Prop} (hK : vx_Back l R p e below s args y 3 W9 Pre Post PostX)
    {b : Addr} {cellB : Cell} (hcell : T.heap[b]? = some cellB) (hobj : cellB.vm.isStatics = false) (hcls : s.vm.findClass C = some cellB.cls)
    {g : JFrame} (hg : g.method = m) (hsize : g.locals.size = c.maxLocals) {argsL rest : List Value} (hlen : ∀ sig, parseMethodDescriptor y.desc = some sig → argsL.length = sig.parameters.length)
    (hstack : g.stack = argsL.reverse ++ .ref b :: rest) (hW : 2 * g.monitorRoom + (rest.map fun v => v.category).sum ≤ W9) (hdg : decode c.code g.pc = .ok (.invokevirtual index, 3))
    (hpre : ∀ vm₁, s.WarmedH vm₁ → Pre ⟨T.setVm vm₁, locs, cells, slots⟩ (Value.ref b :: argsL).toArray) :
    (∃ (v : Option Value) (vm₁ : Vm) (B : Pt), s.WarmedH vm₁ ∧ Stand p l e R s m args below meth c B.U B.locs B.cells B.slots ∧ Post ⟨T.setVm vm₁, locs, cells, slots⟩ (Value.ref b :: argsL).toArray v B ∧
      ∀ target, Steps p.tables e below (B.U.setTop { g with pc := g.pc + 3, stack := v.toList ++ rest }) target → Steps p.tables e below (T.setTop g) target) ∨
    (∃ (q : Addr) (vm₁ : Vm) (B : Pt), s.WarmedH vm₁ ∧ Stand p l e R s m args below meth c B.U B.locs B.cells B.slots ∧ PostX ⟨T.setVm vm₁, locs, cells, slots⟩ (Value.ref b :: argsL).toArray q B ∧
      Steps p.tables e below (T.setTop g) ((B.U.setTop { g with stack := rest }).pushFrame (.throwing q))) := by
  obtain ⟨mk, methM, hnamed, hmethM, hstM, habM⟩ := Cond.instanceMethod_spec hinst
  obtain ⟨methM', cM, hmethM', -, -, -, -, -, -, hsigM⟩ := Cond.code_spec hnamed hcode
  cases hmethM.symm.trans hmethM'
  obtain ⟨c2, r2, m2, q1, q2, q3, q4, kP, hkP, hkPi⟩ := Cond.selects_spec hsel
  cases hcls.symm.trans q1
  cases (State.methodFound?_of_named hnamed hy).symm.trans q2
  cases hnamed.symm.trans q3
  have hselP : selectMethod e.platform s.vm cellB.cls mk = .method mk := by rw [Launch.admits_selectMethod X.admits]; exact q4
  obtain ⟨vm₁, X₁, hstep₁⟩ := X.invokevirtual hexec hown hlink hnamed hmethM hstM hkP hkPi hy (a := b) (cell := cellB) hcell
    (fun z h => by rw [h] at hobj; cases hobj) hselP hmethM habM hkP hkPi (g := g) hg (argsL := argsL) (rest := rest) (hlen _ hsigM) hstack hdg
  rcases hK m meth c ⟨T.setVm vm₁, locs, cells, slots⟩ { g with stack := rest } (.invokevirtual index) mk (Value.ref b :: argsL).toArray X₁ hg hsize hdg hW (X₁.named hnamed) (hpre vm₁ X₁.warmed) with ⟨v, B, X', hpost, hsteps⟩ | ⟨q, B, X', hpost, hsteps⟩
  · exact Or.inl ⟨v, vm₁, B, X₁.warmed, X', hpost, fun target h => hstep₁ _ fun acts => by rw [doInvoke_state]; exact hsteps.trans h⟩
  · exact Or.inr ⟨q, vm₁, B, X₁.warmed, X', hpost, hstep₁ _ fun acts => by rw [doInvoke_state]; exact hsteps⟩
theorem vx_callS (X : Stand p l e R s m args below meth c T locs cells slots) (hexec : p.tables.exec = Jvm.exec) {own : String} {index : Nat} {y : MethodName} {bytes : ByteArray} {maxL : Nat} {ret : Option FieldType}
    (hown : s.vm.findClass own = some m.cls) (hlink : (Cond.methodLink own index y).before args s = true) (hstat : (Cond.static y).before args s = true) (hinit : (Cond.initialized y.cls).before args s = true)
    (hcode : (Cond.code y bytes maxL ret).before args s = true) (hy : y.cls ≠ "java/lang/invoke/MethodHandle" ∧ y.cls ≠ "java/lang/invoke/VarHandle")
    {W9 : Nat} {Pre : Pt → Array Value → Prop} {Post : Pt → Array Value → Option Value → Pt → Prop} {PostX : Pt → Array Value → Addr → Pt → Prop} (hK : vx_Back l R p e below s args y 3 W9 Pre Post PostX)
    {g : JFrame} (hg : g.method = m) (hsize : g.locals.size = c.maxLocals) {argsL rest : List Value} (hlen : ∀ sig, parseMethodDescriptor y.desc = some sig → argsL.length = sig.parameters.length)
    (hstack : g.stack = argsL.reverse ++ rest) (hW : 2 * g.monitorRoom + (rest.map fun v => v.category).sum ≤ W9) (hdg : decode c.code g.pc = .ok (.invokestatic index, 3))
    (hpre : ∀ vm₁, s.WarmedH vm₁ → Pre ⟨T.setVm vm₁, locs, cells, slots⟩ argsL.toArray) :
    (∃ (v : Option Value) (vm₁ : Vm) (B : Pt), s.WarmedH vm₁ ∧ Stand p l e R s m args below meth c B.U B.locs B.cells B.slots ∧ Post ⟨T.setVm vm₁, locs, cells, slots⟩ argsL.toArray v B ∧
      ∀ target, Steps p.tables e below (B.U.setTop { g with pc := g.pc + 3, stack := v.toList ++ rest }) target → Steps p.tables e below (T.setTop g) target) ∨
    (∃ (q : Addr) (vm₁ : Vm) (B : Pt), s.WarmedH vm₁ ∧ Stand p l e R s m args below meth c B.U B.locs B.cells B.slots ∧ PostX ⟨T.setVm vm₁, locs, cells, slots⟩ argsL.toArray q B ∧
      Steps p.tables e below (T.setTop g) ((B.U.setTop { g with stack := rest }).pushFrame (.throwing q))) := by
  obtain ⟨mk, hnamed⟩ := Cond.code_named hcode
  obtain ⟨methM, cM, hmethM, -, -, -, -, -, -, hsigM⟩ := Cond.code_spec hnamed hcode
  have hstatic : methM.isStatic = true := Cond.static_spec hnamed hmethM hstat
  obtain ⟨kP, hkP, -⟩ := className_of_methodNamed hnamed
  have hinitP : kP.init = .initialized := Cond.initialized_spec (findClass_of_methodNamed hnamed) hkP hinit
  obtain ⟨vm₁, X₁, hstep₁⟩ := X.invokestatic hexec hown hlink hnamed hmethM hstatic hkP hinitP hy (g := g) hg (argsL := argsL) (rest := rest) (hlen _ hsigM) hstack hdg
  rcases hK m meth c ⟨T.setVm vm₁, locs, cells, slots⟩ { g with stack := rest } (.invokestatic index) mk argsL.toArray X₁ hg hsize hdg hW (X₁.named hnamed) (hpre vm₁ X₁.warmed) with ⟨v, B, X', hpost, hsteps⟩ | ⟨q, B, X', hpost, hsteps⟩
  · exact Or.inl ⟨v, vm₁, B, X₁.warmed, X', hpost, fun target h => hstep₁ _ fun acts => by rw [doInvoke_state]; exact hsteps.trans h⟩
  · exact Or.inr ⟨q, vm₁, B, X₁.warmed, X', hpost, hstep₁ _ fun acts => by rw [doInvoke_state]; exact hsteps⟩
end Calls
theorem vx_cls {s : State} {T : State} {vm₁ : Vm} {E : String} {k : ClassId} (hW : s.WarmedH vm₁) (h : (T.setVm vm₁).vm.findClass E = some k) : s.vm.findClass E = some k := by
  have h1 : vm₁.findClass E = some k := h
  rw [hW.alike.findClass] at h1
  exact h1
/-- the method's frame g, with q thrown over it -/
def vx_W (p : Program) (l : Launch) (e : Env) (R : Room) (s : State) (m : MethodId) (args : Array Value) (below : List Frame) (meth : Method) (c : Code) (H : Heap) (locs : List Loc) (cells slots : Nat) (Q : State → Prop) (g : JFrame) (q : Addr) : Prop :=
  ∀ T : State, T.heap = H → Stand p l e R s m args below meth c T locs cells slots → ∃ t, Steps p.tables e below ((T.setTop g).pushFrame (.throwing q)) t ∧ Q t
def vx_Run (p : Program) (l : Launch) (e : Env) (R : Room) (s : State) (m : MethodId) (args : Array Value) (below : List Frame) (meth : Method) (c : Code) (H : Heap) (locs : List Loc) (cells slots mc ms : Nat) (g : JFrame) (rest : List Value) (Qa : State → Outcome → State → Prop) (XC : String → State → State → Prop) (free : Addr → Prop) : Prop :=
  ∀ T : State, T.heap = H → Stand p l e R s m args below meth c T locs cells slots →
    (∃ (v : Option Value) (st₀ t T' : State) (L : List Loc), st₀.heap = H ∧ Stand p l e R s m args below meth c T' (locs ++ L) (cells + mc) (slots + ms) ∧ (∀ q ∈ L, free q.base) ∧ T'.heap = t.heap ∧ T'.vm = t.vm ∧ Qa st₀ (.returned v) t ∧
      Goes p e below T g T' { g with pc := g.pc + 3, stack := v.toList ++ rest }) ∨
    (∃ (q : Addr) (st₀ t T' : State) (L : List Loc) (E : String) (ce : Cell), st₀.heap = H ∧ Stand p l e R s m args below meth c T' (locs ++ L) (cells + mc) (slots + ms) ∧ (∀ z ∈ L, free z.base) ∧ T'.heap = t.heap ∧ T'.vm = t.vm ∧ XC E st₀ t ∧ t.heap[q]? = some ce ∧ ce.vm = .none ∧ s.vm.findClass E = some ce.cls ∧
      Steps p.tables e below (T.setTop g) ((T'.setTop { g with stack := rest }).pushFrame (.throwing q)))
def vx_X {S : Type} (px : S → Prop) (B : String → S → State → Prop) (A : Nat → Prop) : String → State → State → Prop := fun E st t => ∃ u : S, px u ∧ B E u t ∧ va_F A st t
section Runs
variable {p : Program} {l : Launch} {e : Env} {R : Room} {s : State} {m : MethodId} {args : Array Value} {below : List Frame} {meth : Method} {c : Code} {H : Heap} {locs : List Loc} {cells slots : Nat}
variable {y : MethodName} {bytes cc : ByteArray} {maxL nL mc ms n index : Nat} {ret : Option FieldType} {ws : List Cond} {rm : Room} {Pc : Array Value → State → Prop} {Qc : Array Value → State → Outcome → State → Prop} {XC : String → State → State → Prop} {free : Addr → Prop} {Ts : List Cond} {own C : String} {b : Addr} {As rest : List Value} {g : JFrame}
theorem vx_callBack (cb : CallB R s args own index y bytes maxL ret ws rm mc ms n) (hM : vx_Met l y ws rm Pc Qc XC mc ms free) (hbl : FrameBlind Pc) : vx_Back l R p e below s args y 3 8 (PreOf R mc ms Pc) (PostOf Qc mc ms free) (vx_Post XC mc ms free) := by
  obtain ⟨hrc, hrs, hfr, hlo, hws, hcw, -, hini, -⟩ := cb
  exact vx_back (bytes := bytes) (maxL := maxL) (ret := ret) hM hbl hrc hrs hfr hlo hws hcw (fun a' U hW => word_at hW (Or.inl (by first | rfl | simp [Cond.onTables, Cond.keeps, Cond.steady])) hini)
theorem vx_runV (S : CallFix p m c cc nL s args Ts own) (hM : vx_Met l y ws rm Pc Qc XC mc ms free) (cw : CallW R s args own C index y bytes maxL ret ws rm mc ms n) (hp : PreV s H C b Pc As)
    (hg : g.method = m) (hn : As.length = n) (hsize : g.locals.size = nL) (hstack : g.stack = As.reverse ++ .ref b :: rest) (hW : 2 * g.monitorRoom + (rest.map fun v => v.category).sum ≤ 8) (hdg : decode cc g.pc = .ok (.invokevirtual index, 3)) (hf : cells + mc ≤ R.cells ∧ slots + ms ≤ R.slots) :
    vx_Run p l e R s m args below meth c H locs cells slots mc ms g rest (Qc (Value.ref b :: As).toArray) XC free := by
  have hK : vx_Back l R p e below s args y 3 8 (PreOf R mc ms Pc) (PostOf Qc mc ms free) (vx_Post XC mc ms free) := vx_callBack cw.1 hM hp.1
  obtain ⟨⟨-, -, -, -, -, -, hcode, -, hy, hlen, hl⟩, hin, hse⟩ := cw
  obtain ⟨hx, hb, hml, ho, -⟩ := S
  obtain ⟨-, ⟨cellB, hcB, hoB, hclB⟩, hPc⟩ := hp
  intro T hT X
  rcases vx_callV X hx (C := C) (bytes := bytes) (maxL := maxL) (ret := ret) ho hl hin hse hcode hy hK (by rw [hT]; exact hcB) hoB hclB hg (hsize.trans hml.symm) (argsL := As) (rest := rest) (fun sig h => hn.trans (hlen sig h)) hstack hW (by rw [hb]; exact hdg)
    (fun vm₁ hW₁ => ⟨hf.1, hf.2, hPc (T.setVm vm₁) hT hW₁⟩) with ⟨v, vm₁, ⟨U', l2, c2, s2⟩, hW₁, X', ⟨g', mk, t, L, e1, e2, hq, h1, hL, h2, h3⟩, st⟩ | ⟨q, vm₁, ⟨U', l2, c2, s2⟩, hW₁, X', ⟨g', mk, t, L, E, ce, e1, e2, hq, hce, hcv, hcl, h1, hL, h2, h3⟩, st⟩
  · dsimp only [Pt.U, Pt.locs, Pt.cells, Pt.slots] at X' e1 e2 h1 h2 h3 st
    subst h1; subst h2; subst h3
    exact Or.inl ⟨v, (T.setVm vm₁).calling g' mk (Value.ref b :: As).toArray, t, U', L, hT, X', hL, e1, e2, hq, st⟩
  · dsimp only [Pt.U, Pt.locs, Pt.cells, Pt.slots] at X' e1 e2 h1 h2 h3 st hcl
    subst h1; subst h2; subst h3
    exact Or.inr ⟨q, (T.setVm vm₁).calling g' mk (Value.ref b :: As).toArray, t, U', L, E, ce, hT, X', hL, e1, e2, hq, hce, hcv, vx_cls hW₁ hcl, st⟩
theorem vx_runS (S : CallFix p m c cc nL s args Ts own) (hM : vx_Met l y ws rm Pc Qc XC mc ms free) (cw : CallB R s args own index y bytes maxL ret ws rm mc ms n ∧ (Cond.static y).before args s = true) (hp : PreS s H Pc As)
    (hg : g.method = m) (hn : As.length = n) (hsize : g.locals.size = nL) (hstack : g.stack = As.reverse ++ rest) (hW : 2 * g.monitorRoom + (rest.map fun v => v.category).sum ≤ 8) (hdg : decode cc g.pc = .ok (.invokestatic index, 3)) (hf : cells + mc ≤ R.cells ∧ slots + ms ≤ R.slots) :
    vx_Run p l e R s m args below meth c H locs cells slots mc ms g rest (Qc As.toArray) XC free := by
  have hK : vx_Back l R p e below s args y 3 8 (PreOf R mc ms Pc) (PostOf Qc mc ms free) (vx_Post XC mc ms free) := vx_callBack cw.1 hM hp.1
  obtain ⟨⟨-, -, -, -, -, -, hcode, hini, hy, hlen, hl⟩, hstt⟩ := cw
  obtain ⟨hx, hb, hml, ho, -⟩ := S
  intro T hT X
  rcases vx_callS X hx (bytes := bytes) (maxL := maxL) (ret := ret) ho hl hstt hini hcode hy hK hg (hsize.trans hml.symm) (argsL := As) (rest := rest) (fun sig h => hn.trans (hlen sig h)) hstack hW (by rw [hb]; exact hdg)
    (fun vm₁ hW₁ => ⟨hf.1, hf.2, hp.2 (T.setVm vm₁) hT hW₁⟩) with ⟨v, vm₁, ⟨U', l2, c2, s2⟩, hW₁, X', ⟨g', mk, t, L, e1, e2, hq, h1, hL, h2, h3⟩, st⟩ | ⟨q, vm₁, ⟨U', l2, c2, s2⟩, hW₁, X', ⟨g', mk, t, L, E, ce, e1, e2, hq, hce, hcv, hcl, h1, hL, h2, h3⟩, st⟩
  · dsimp only [Pt.U, Pt.locs, Pt.cells, Pt.slots] at X' e1 e2 h1 h2 h3 st
    subst h1; subst h2; subst h3
    exact Or.inl ⟨v, (T.setVm vm₁).calling g' mk As.toArray, t, U', L, hT, X', hL, e1, e2, hq, st⟩
  · dsimp only [Pt.U, Pt.locs, Pt.cells, Pt.slots] at X' e1 e2 h1 h2 h3 st hcl
    subst h1; subst h2; subst h3
    exact Or.inr ⟨q, (T.setVm vm₁).calling g' mk As.toArray, t, U', L, E, ce, hT, X', hL, e1, e2, hq, hce, hcv, vx_cls hW₁ hcl, st⟩
end Runs
section Rows
variable {p : Program} {l : Launch} {e : Env} {R : Room} {s : State} {m : MethodId} {args : Array Value} {below : List Frame} {meth : Method} {c : Code} {H : Heap} {locs : List Loc} {cells slots : Nat} {Q : State → Prop}
variable {mc ms : Nat} {free : Addr → Prop} {A0 A1 : Nat → Prop} {H0 : Heap} {a : Array Value} {pc : Nat} {ls : Array Slot} {st0 rest : List Value}
theorem vx_keep {st₀ t T' : State} {L : List Loc} (h0 : st₀.heap = H) (e1 : T'.heap = t.heap) (hS : va_S A0 H0 H locs) (hA : ∀ q, q < H.size → A1 q → A0 q) (hf : ∀ q, free q → A0 q) (hL : ∀ q ∈ L, free q.base) (hF : va_F A1 st₀ t) :
    H.size ≤ T'.heap.size ∧ (∀ q : Nat, q < H.size → ¬ A1 q → T'.heap[q]? = H[q]?) ∧ va_S A0 H0 T'.heap (locs ++ L) := by
  obtain ⟨hz, hk⟩ := hF
  rw [h0] at hz hk
  exact ⟨by rw [e1]; exact hz, fun q h1 h2 => by rw [e1]; exact hk q h1 h2,
    ⟨Nat.le_trans hS.1 (by rw [e1]; exact hz), fun q h1 h2 => by rw [e1, hk q (Nat.lt_of_lt_of_le h1 hS.1) (fun z => h2 (hA q (Nat.lt_of_lt_of_le h1 hS.1) z))]; exact hS.2.1 q h1 h2, fun q hq => by
      rcases List.mem_append.mp hq with h | h
      · exact hS.2.2 q h
      · exact hf _ (hL q h)⟩⟩
theorem vx_calli {S SX : Type} {post : Int32 → S → Prop} {px : SX → Prop} {B : S → State → Prop} {BX : String → SX → State → Prop} {AX : Nat → Prop} (hr : vx_Run p l e R s m args below meth c H locs cells slots mc ms (F0 m pc ls st0) rest (va_Qi post B A1 a) (vx_X px BX AX) free) (hS : va_S A0 H0 H locs) (hA : ∀ q, q < H.size → A1 q → A0 q) (hf : ∀ q, free q → A0 q) (hAX : ∀ q, q < H.size → AX q → A0 q)
    (kx : ∀ (E : String) (ce : Cell) (q9 : Addr) (u : SX) (t : State) (H1 : Heap) (locs1 : List Loc), t.heap = H1 → s.vm.Alike t.vm → px u → BX E u t → H.size ≤ H1.size → (∀ q : Nat, q < H.size → ¬ AX q → H1[q]? = H[q]?) → va_S A0 H0 H1 locs1 → H1[q9]? = some ce → ce.vm = .none → s.vm.findClass E = some ce.cls → vx_W p l e R s m args below meth c H1 locs1 (cells + mc) (slots + ms) Q (F0 m pc ls rest) q9)
    (kk : ∀ (r : Int32) (u : S) (t : State) (H1 : Heap) (locs1 : List Loc), t.heap = H1 → s.vm.Alike t.vm → post r u → B u t → H.size ≤ H1.size → (∀ q : Nat, q < H.size → ¬ A1 q → H1[q]? = H[q]?) → va_S A0 H0 H1 locs1 → W p l e R s m args below meth c H1 locs1 (cells + mc) (slots + ms) Q (F0 m (pc + 3) ls (.int r :: rest))) : W p l e R s m args below meth c H locs cells slots Q (F0 m pc ls st0) := by
  intro T hT X
  rcases hr T hT X with ⟨v, st₀, t, T', L, h0, X', hL, e1, e2, ⟨⟨r, u, hv, hp, hb⟩, hF⟩, st⟩ | ⟨q, st₀, t, T', L, E, ce, h0, X', hL, e1, e2, ⟨u, hp, hb, hF⟩, hce, hcv, hcl, st⟩
  · cases hv
    obtain ⟨k1, k2, k3⟩ := vx_keep h0 e1 hS hA hf hL hF
    obtain ⟨t2, a1, b1⟩ := kk r u t T'.heap (locs ++ L) e1.symm (by rw [← e2]; exact X'.warmed.alike) hp hb k1 k2 k3 T' rfl X'
    exact ⟨t2, st t2 a1, b1⟩
  · obtain ⟨k1, k2, k3⟩ := vx_keep h0 e1 hS hAX hf hL hF
    obtain ⟨t2, a1, b1⟩ := kx E ce q u t T'.heap (locs ++ L) e1.symm (by rw [← e2]; exact X'.warmed.alike) hp hb k1 k2 k3 (by rw [e1]; exact hce) hcv hcl T' rfl X'
    exact ⟨t2, st.trans a1, b1⟩
theorem vx_calll {S SX : Type} {post : Int64 → S → Prop} {px : SX → Prop} {B : S → State → Prop} {BX : String → SX → State → Prop} {AX : Nat → Prop} (hr : vx_Run p l e R s m args below meth c H locs cells slots mc ms (F0 m pc ls st0) rest (va_Ql post B A1 a) (vx_X px BX AX) free) (hS : va_S A0 H0 H locs) (hA : ∀ q, q < H.size → A1 q → A0 q) (hf : ∀ q, free q → A0 q) (hAX : ∀ q, q < H.size → AX q → A0 q)
    (kx : ∀ (E : String) (ce : Cell) (q9 : Addr) (u : SX) (t : State) (H1 : Heap) (locs1 : List Loc), t.heap = H1 → s.vm.Alike t.vm → px u → BX E u t → H.size ≤ H1.size → (∀ q : Nat, q < H.size → ¬ AX q → H1[q]? = H[q]?) → va_S A0 H0 H1 locs1 → H1[q9]? = some ce → ce.vm = .none → s.vm.findClass E = some ce.cls → vx_W p l e R s m args below meth c H1 locs1 (cells + mc) (slots + ms) Q (F0 m pc ls rest) q9)
    (kk : ∀ (r : Int64) (u : S) (t : State) (H1 : Heap) (locs1 : List Loc), t.heap = H1 → s.vm.Alike t.vm → post r u → B u t → H.size ≤ H1.size → (∀ q : Nat, q < H.size → ¬ A1 q → H1[q]? = H[q]?) → va_S A0 H0 H1 locs1 → W p l e R s m args below meth c H1 locs1 (cells + mc) (slots + ms) Q (F0 m (pc + 3) ls (.long r :: rest))) : W p l e R s m args below meth c H locs cells slots Q (F0 m pc ls st0) := by
  intro T hT X
  rcases hr T hT X with ⟨v, st₀, t, T', L, h0, X', hL, e1, e2, ⟨⟨r, u, hv, hp, hb⟩, hF⟩, st⟩ | ⟨q, st₀, t, T', L, E, ce, h0, X', hL, e1, e2, ⟨u, hp, hb, hF⟩, hce, hcv, hcl, st⟩
  · cases hv
    obtain ⟨k1, k2, k3⟩ := vx_keep h0 e1 hS hA hf hL hF
    obtain ⟨t2, a1, b1⟩ := kk r u t T'.heap (locs ++ L) e1.symm (by rw [← e2]; exact X'.warmed.alike) hp hb k1 k2 k3 T' rfl X'
    exact ⟨t2, st t2 a1, b1⟩
  · obtain ⟨k1, k2, k3⟩ := vx_keep h0 e1 hS hAX hf hL hF
    obtain ⟨t2, a1, b1⟩ := kx E ce q u t T'.heap (locs ++ L) e1.symm (by rw [← e2]; exact X'.warmed.alike) hp hb k1 k2 k3 (by rw [e1]; exact hce) hcv hcl T' rfl X'
    exact ⟨t2, st.trans a1, b1⟩
theorem vx_callf {S SX : Type} {post : UInt32 → S → Prop} {px : SX → Prop} {B : S → State → Prop} {BX : String → SX → State → Prop} {AX : Nat → Prop} (hr : vx_Run p l e R s m args below meth c H locs cells slots mc ms (F0 m pc ls st0) rest (va_Qf post B A1 a) (vx_X px BX AX) free) (hS : va_S A0 H0 H locs) (hA : ∀ q, q < H.size → A1 q → A0 q) (hf : ∀ q, free q → A0 q) (hAX : ∀ q, q < H.size → AX q → A0 q)
    (kx : ∀ (E : String) (ce : Cell) (q9 : Addr) (u : SX) (t : State) (H1 : Heap) (locs1 : List Loc), t.heap = H1 → s.vm.Alike t.vm → px u → BX E u t → H.size ≤ H1.size → (∀ q : Nat, q < H.size → ¬ AX q → H1[q]? = H[q]?) → va_S A0 H0 H1 locs1 → H1[q9]? = some ce → ce.vm = .none → s.vm.findClass E = some ce.cls → vx_W p l e R s m args below meth c H1 locs1 (cells + mc) (slots + ms) Q (F0 m pc ls rest) q9)
    (kk : ∀ (r : UInt32) (u : S) (t : State) (H1 : Heap) (locs1 : List Loc), t.heap = H1 → s.vm.Alike t.vm → post r u → B u t → H.size ≤ H1.size → (∀ q : Nat, q < H.size → ¬ A1 q → H1[q]? = H[q]?) → va_S A0 H0 H1 locs1 → W p l e R s m args below meth c H1 locs1 (cells + mc) (slots + ms) Q (F0 m (pc + 3) ls (.float r :: rest))) : W p l e R s m args below meth c H locs cells slots Q (F0 m pc ls st0) := by
  intro T hT X
  rcases hr T hT X with ⟨v, st₀, t, T', L, h0, X', hL, e1, e2, ⟨⟨r, u, hv, hp, hb⟩, hF⟩, st⟩ | ⟨q, st₀, t, T', L, E, ce, h0, X', hL, e1, e2, ⟨u, hp, hb, hF⟩, hce, hcv, hcl, st⟩
  · cases hv
    obtain ⟨k1, k2, k3⟩ := vx_keep h0 e1 hS hA hf hL hF
    obtain ⟨t2, a1, b1⟩ := kk r u t T'.heap (locs ++ L) e1.symm (by rw [← e2]; exact X'.warmed.alike) hp hb k1 k2 k3 T' rfl X'
    exact ⟨t2, st t2 a1, b1⟩
  · obtain ⟨k1, k2, k3⟩ := vx_keep h0 e1 hS hAX hf hL hF
    obtain ⟨t2, a1, b1⟩ := kx E ce q u t T'.heap (locs ++ L) e1.symm (by rw [← e2]; exact X'.warmed.alike) hp hb k1 k2 k3 (by rw [e1]; exact hce) hcv hcl T' rfl X'
    exact ⟨t2, st.trans a1, b1⟩
theorem vx_calld {S SX : Type} {post : UInt64 → S → Prop} {px : SX → Prop} {B : S → State → Prop} {BX : String → SX → State → Prop} {AX : Nat → Prop} (hr : vx_Run p l e R s m args below meth c H locs cells slots mc ms (F0 m pc ls st0) rest (va_Qd post B A1 a) (vx_X px BX AX) free) (hS : va_S A0 H0 H locs) (hA : ∀ q, q < H.size → A1 q → A0 q) (hf : ∀ q, free q → A0 q) (hAX : ∀ q, q < H.size → AX q → A0 q)
    (kx : ∀ (E : String) (ce : Cell) (q9 : Addr) (u : SX) (t : State) (H1 : Heap) (locs1 : List Loc), t.heap = H1 → s.vm.Alike t.vm → px u → BX E u t → H.size ≤ H1.size → (∀ q : Nat, q < H.size → ¬ AX q → H1[q]? = H[q]?) → va_S A0 H0 H1 locs1 → H1[q9]? = some ce → ce.vm = .none → s.vm.findClass E = some ce.cls → vx_W p l e R s m args below meth c H1 locs1 (cells + mc) (slots + ms) Q (F0 m pc ls rest) q9)
    (kk : ∀ (r : UInt64) (u : S) (t : State) (H1 : Heap) (locs1 : List Loc), t.heap = H1 → s.vm.Alike t.vm → post r u → B u t → H.size ≤ H1.size → (∀ q : Nat, q < H.size → ¬ A1 q → H1[q]? = H[q]?) → va_S A0 H0 H1 locs1 → W p l e R s m args below meth c H1 locs1 (cells + mc) (slots + ms) Q (F0 m (pc + 3) ls (.double r :: rest))) : W p l e R s m args below meth c H locs cells slots Q (F0 m pc ls st0) := by
  intro T hT X
  rcases hr T hT X with ⟨v, st₀, t, T', L, h0, X', hL, e1, e2, ⟨⟨r, u, hv, hp, hb⟩, hF⟩, st⟩ | ⟨q, st₀, t, T', L, E, ce, h0, X', hL, e1, e2, ⟨u, hp, hb, hF⟩, hce, hcv, hcl, st⟩
  · cases hv
    obtain ⟨k1, k2, k3⟩ := vx_keep h0 e1 hS hA hf hL hF
    obtain ⟨t2, a1, b1⟩ := kk r u t T'.heap (locs ++ L) e1.symm (by rw [← e2]; exact X'.warmed.alike) hp hb k1 k2 k3 T' rfl X'
    exact ⟨t2, st t2 a1, b1⟩
  · obtain ⟨k1, k2, k3⟩ := vx_keep h0 e1 hS hAX hf hL hF
    obtain ⟨t2, a1, b1⟩ := kx E ce q u t T'.heap (locs ++ L) e1.symm (by rw [← e2]; exact X'.warmed.alike) hp hb k1 k2 k3 (by rw [e1]; exact hce) hcv hcl T' rfl X'
    exact ⟨t2, st.trans a1, b1⟩
theorem vx_callv {S SX : Type} {post : S → Prop} {px : SX → Prop} {B : S → State → Prop} {BX : String → SX → State → Prop} {AX : Nat → Prop} (hr : vx_Run p l e R s m args below meth c H locs cells slots mc ms (F0 m pc ls st0) rest (va_Qv post B A1 a) (vx_X px BX AX) free) (hS : va_S A0 H0 H locs) (hA : ∀ q, q < H.size → A1 q → A0 q) (hf : ∀ q, free q → A0 q) (hAX : ∀ q, q < H.size → AX q → A0 q)
    (kx : ∀ (E : String) (ce : Cell) (q9 : Addr) (u : SX) (t : State) (H1 : Heap) (locs1 : List Loc), t.heap = H1 → s.vm.Alike t.vm → px u → BX E u t → H.size ≤ H1.size → (∀ q : Nat, q < H.size → ¬ AX q → H1[q]? = H[q]?) → va_S A0 H0 H1 locs1 → H1[q9]? = some ce → ce.vm = .none → s.vm.findClass E = some ce.cls → vx_W p l e R s m args below meth c H1 locs1 (cells + mc) (slots + ms) Q (F0 m pc ls rest) q9)
    (kk : ∀ (u : S) (t : State) (H1 : Heap) (locs1 : List Loc), t.heap = H1 → s.vm.Alike t.vm → post u → B u t → H.size ≤ H1.size → (∀ q : Nat, q < H.size → ¬ A1 q → H1[q]? = H[q]?) → va_S A0 H0 H1 locs1 → W p l e R s m args below meth c H1 locs1 (cells + mc) (slots + ms) Q (F0 m (pc + 3) ls (rest))) : W p l e R s m args below meth c H locs cells slots Q (F0 m pc ls st0) := by
  intro T hT X
  rcases hr T hT X with ⟨v, st₀, t, T', L, h0, X', hL, e1, e2, ⟨⟨u, hv, hp, hb⟩, hF⟩, st⟩ | ⟨q, st₀, t, T', L, E, ce, h0, X', hL, e1, e2, ⟨u, hp, hb, hF⟩, hce, hcv, hcl, st⟩
  · cases hv
    obtain ⟨k1, k2, k3⟩ := vx_keep h0 e1 hS hA hf hL hF
    obtain ⟨t2, a1, b1⟩ := kk u t T'.heap (locs ++ L) e1.symm (by rw [← e2]; exact X'.warmed.alike) hp hb k1 k2 k3 T' rfl X'
    exact ⟨t2, st t2 a1, b1⟩
  · obtain ⟨k1, k2, k3⟩ := vx_keep h0 e1 hS hAX hf hL hF
    obtain ⟨t2, a1, b1⟩ := kx E ce q u t T'.heap (locs ++ L) e1.symm (by rw [← e2]; exact X'.warmed.alike) hp hb k1 k2 k3 (by rw [e1]; exact hce) hcv hcl T' rfl X'
    exact ⟨t2, st.trans a1, b1⟩
/-- caught by the row x of this method's table; the rows ahead don't take it -/
theorem vx_catch {own name : String} {E : String} {ce : Cell} {q : Addr} (hown : s.vm.findClass own = some m.cls) (pre : List ExceptionTableEntry) (x : ExceptionTableEntry) (suf : List ExceptionTableEntry) (hsplit : c.exceptionTable.toList = pre ++ x :: suf)
    (hpass : ∀ z ∈ pre, covers z pc = false ∨ (z.catchType ≠ 0 ∧ ∃ nm : String, (Cond.classLink own z.catchType nm).before args s = true ∧ va_Nc E nm s)) (hx : covers x pc = true) (h0 : x.catchType ≠ 0)
    (hlink : (Cond.classLink own x.catchType name).before args s = true) (hcast : (Cond.castable E name).before args s = true) (hcell : H[q]? = some ce) (hv : ce.vm = .none) (hcl : s.vm.findClass E = some ce.cls)
    (kk : W p l e R s m args below meth c H locs cells slots Q (F0 m x.handlerPc ls [.ref q])) : vx_W p l e R s m args below meth c H locs cells slots Q (F0 m pc ls rest) q := by
  intro T hT X
  have hpl : e.platform.magicAccessors = ({} : Platform).magicAccessors := by rw [X.admits.platform]
  obtain ⟨c3, c4, hc3, hc4, hasg⟩ := Cond.castable_spec hcast
  cases Option.some.inj (hc3.symm.trans hcl)
  obtain ⟨c5, hc5, hcl5⟩ := Cond.classLink_spec hown hlink e.platform hpl
  cases Option.some.inj (hc4.symm.trans hc5)
  obtain ⟨vm', X', st⟩ := X.thenCaughtThrough q (g := F0 m pc ls rest) rfl (Steps.refl _) (by rw [hT]; exact hcell) (by rw [hv]; rfl) (by obtain ⟨k9, h9, -⟩ := Vm.findClass_spec hcl; exact ⟨k9, h9⟩) pre x suf hsplit
    (fun z hz => by
      rcases hpass z hz with h | ⟨hz0, nm, hl1, hn1⟩
      · exact Or.inl h
      · obtain ⟨c6, hc6, hcl6⟩ := Cond.classLink_spec hown hl1 e.platform hpl
        obtain ⟨a8, b8, h1, h2, h3⟩ := hn1
        cases Option.some.inj (h1.symm.trans hcl)
        cases Option.some.inj (h2.symm.trans hc6)
        exact Or.inr ⟨hz0, _, hcl6, h3⟩) hx (Or.inr ⟨h0, c4, hcl5, hasg⟩)
  obtain ⟨t, a1, b1⟩ := kk (T.setVm vm') hT X'
  exact ⟨t, st.trans a1, b1⟩
end Rows
section Ends
variable {p : Program} {l : Launch} {e : Env} {R : Room} {s : State} {m : MethodId} {args : Array Value} {below : List Frame} {meth : Method} {c : Code} {H : Heap} {locs : List Loc} {cells slots : Nat} {Q : State → Prop}
variable {mc ms : Nat} {free : Addr → Prop} {A0 A1 : Nat → Prop} {H0 : Heap} {a : Array Value} {ls : Array Slot} {st0 rest : List Value}
variable {Qc : Array Value → State → Outcome → State → Prop} {XC : String → State → State → Prop}
/-- what a body that may throw owes at its end -/
def vx_MQ (below : List Frame) (Qc : Array Value → State → Outcome → State → Prop) (XC : String → State → State → Prop) (a : Array Value) (s : State) (mc ms : Nat) (free : Addr → Prop) : State → Prop := fun t =>
  ∃ o, t.status = .running ∧ Ended t below o ∧ vx_Q Qc XC mc ms free a s o t
theorem vx_ret {g : JFrame} {mc ms : Nat} (k : W p l e R s m args below meth c H locs cells slots (MQ below Qc args s mc ms free) g) : W p l e R s m args below meth c H locs cells slots (vx_MQ below Qc XC args s mc ms free) g := by
  intro T hT X
  obtain ⟨t, a1, o, b1, b2, b3, b4⟩ := k T hT X
  exact ⟨t, a1, o, b1, b2, Or.inl ⟨b3, b4⟩⟩
/-- not caught here: it goes on to the caller -/
theorem vx_widen {g : JFrame} {q : Addr} {k n : Nat} (h1 : cells ≤ k) (h2 : slots ≤ n) (kk : vx_W p l e R s m args below meth c H locs k n Q g q) : vx_W p l e R s m args below meth c H locs cells slots Q g q := fun T hT X => kk T hT (stand_widen X h1 h2)
theorem vx_out {pc : Nat} {E : String} {ce : Cell} {q : Addr} {mc ms : Nat} (hout : ∀ x ∈ c.exceptionTable.toList, covers x pc = false) (hlocks : meth.locks = false) (hcell : H[q]? = some ce) (hv : ce.vm = .none) (hcl : s.vm.findClass E = some ce.cls)
    (hx : ∀ t : State, t.heap = H → s.vm.Alike t.vm → XC E s t) (hf : ∀ z ∈ locs, free z.base) (hc : cells ≤ mc) (hs : slots ≤ ms) :
    vx_W p l e R s m args below meth c H locs cells slots (vx_MQ below Qc XC args s mc ms free) (F0 m pc ls rest) q := by
  intro T hT X
  obtain ⟨st1, hrun, hend, hW, hsm⟩ := X.leaveThrown q (g := F0 m pc ls rest) rfl rfl rfl hout hlocks
  have hcell9 : (T.setFrames (.throwing q :: below)).heap[q]? = some ce := by
    show T.heap[q]? = some ce
    rw [hT]; exact hcell
  exact ⟨_, st1, .threw q, hrun, hend, Or.inr ⟨q, rfl, E, ce, locs, hx _ hT hW.alike, hcell9, hv, hcl, hW, hsm.mono hc hs, hf⟩⟩
theorem vx_frame {U : State} {k n : Nat} (h : s.sameButNew ({ U with vm := s.vm } : State) locs k n) : s.heap.size ≤ U.heap.size ∧ ∀ q : Nat, q < s.heap.size → (∀ z ∈ locs, z.base ≠ q) → U.heap[q]? = s.heap[q]? := by
  obtain ⟨-, h2, -, -, -, h6⟩ := h
  refine ⟨h2, fun q hq hz => ?_⟩
  obtain ⟨c9, e1, e2, e3, e4⟩ := h6 q _ (Array.getElem?_eq_getElem hq)
  have hs : c9.slots = (s.heap[q]).slots := Array.ext_getElem? fun i => e4 i fun hm => hz _ hm rfl
  have h9 : c9 = s.heap[q] := by
    rw [hs] at e2
    exact e2
  have e5 : U.heap[q]? = some c9 := e1
  rw [e5, h9, Array.getElem?_eq_getElem hq]
/-- the words of a throw but the four that speak of the heap -/
def vx_no (w : Cond) : Bool := decide (w ≠ .isRef (.static Bundle.tN "UNASSIGNED_STACK" Bundle.steD)) && decide (w ≠ .isRef (.static Bundle.tN "SUPPRESSED_SENTINEL" Bundle.listD)) && decide (w ≠ .laysStatic Bundle.tN "UNASSIGNED_STACK" Bundle.steD) && decide (w ≠ .laysStatic Bundle.tN "SUPPRESSED_SENTINEL" Bundle.listD)
def vx_at0 (own : String) (ic : Nat) (X : String) (names : List String) : List Cond := (Bundle.ownAtoms0 own ic X names).filter vx_no
def vx_atS (own : String) (ic : Nat) (X : String) (names : List String) : List Cond := (Bundle.ownAtoms own ic X names).filter vx_no
/-- a word that the tables alone decide, or a good one -/
def vx_ot (w : Cond) : Bool := w.onTables || goodWord w
theorem vx_ot_at {args a' : Array Value} {s U : State} {w : Cond} (hW : s.WarmedH U.vm) (hvm : s.vm = U.vm) (hg : vx_ot w = true) (h : w.before args s = true) : w.before a' U = true := by
  simp only [vx_ot, Bool.or_eq_true] at hg
  rcases hg with hg | hg
  · exact va_tabs hg hvm h
  · exact word_at hW (good_of_word hg) h
/-- a list's words: the good ones out of the method's own list, the others by premises of their own -/
theorem vx_hat {args : Array Value} {s : State} {L B : List Cond} (h1 : ∀ w ∈ L.filter goodWord, w.before args s = true) (h2 : ∀ w ∈ L.filter (fun w => !goodWord w), w ∈ B) (h3 : ∀ w ∈ B, w.before args s = true) : ∀ w ∈ L, w.before args s = true := by
  intro w hw
  by_cases g : goodWord w = true
  · exact h1 w (List.mem_filter.mpr ⟨hw, g⟩)
  · refine h3 w (h2 w (List.mem_filter.mpr ⟨hw, ?_⟩))
    show (!goodWord w) = true
    cases hgw : goodWord w
    · rfl
    · exact absurd hgw g
theorem vx_c {args : Array Value} {s : State} {w : Cond} {B : List Cond} (h : w.before args s = true) (t : ∀ w ∈ B, w.before args s = true) : ∀ w' ∈ w :: B, w'.before args s = true := fun w' h' => (List.mem_cons.mp h').elim (fun e => by rw [e]; exact h) (t w')
theorem vx_n {args : Array Value} {s : State} : ∀ w ∈ ([] : List Cond), w.before args s = true := fun _ h => nomatch h
theorem vx_own {args : Array Value} {s : State} {L : List Cond} (h1 : ∀ w ∈ L.filter vx_no, w.before args s = true)
    (hU : (Cond.isRef (.static Bundle.tN "UNASSIGNED_STACK" Bundle.steD)).before args s = true) (hN : (Cond.isRef (.static Bundle.tN "SUPPRESSED_SENTINEL" Bundle.listD)).before args s = true)
    (lU : (Cond.laysStatic Bundle.tN "UNASSIGNED_STACK" Bundle.steD).before args s = true) (lN : (Cond.laysStatic Bundle.tN "SUPPRESSED_SENTINEL" Bundle.listD).before args s = true) : ∀ w ∈ L, w.before args s = true := by
  intro w hw
  by_cases e1 : w = .isRef (.static Bundle.tN "UNASSIGNED_STACK" Bundle.steD)
  · rw [e1]; exact hU
  · by_cases e2 : w = .isRef (.static Bundle.tN "SUPPRESSED_SENTINEL" Bundle.listD)
    · rw [e2]; exact hN
    · by_cases e3 : w = .laysStatic Bundle.tN "UNASSIGNED_STACK" Bundle.steD
      · rw [e3]; exact lU
      · by_cases e4 : w = .laysStatic Bundle.tN "SUPPRESSED_SENTINEL" Bundle.listD
        · rw [e4]; exact lN
        · exact h1 w (List.mem_filter.mpr ⟨hw, by unfold vx_no; rw [decide_eq_true e1, decide_eq_true e2, decide_eq_true e3, decide_eq_true e4]; rfl⟩)
/-- where a static field lies, its class's statics cell in H -/
def vx_L (C n d : String) (A : Nat → Prop) (U : State) (H : Heap) : Prop := ∃ (c : ClassId) (k : Class) (i : Nat) (f : Field) (a : Nat) (cell : Cell), U.vm.findClass C = some c ∧ U.fieldFound? C n d = some (c, k, i, f) ∧ f.isStatic = true ∧ k.statics = some a ∧ H[a]? = some cell ∧ cell.vm.isStatics = true ∧ cell.cls = c ∧ f.slot < cell.slots.size ∧ k.staticTypes[f.slot]? = some f.type ∧ ¬ A a
theorem vx_L.moved {C n d : String} {A : Nat → Prop} {u U : State} {H : Heap} (hvm : u.vm.Alike U.vm) (h : vx_L C n d A u H) : vx_L C n d A U H := by
  obtain ⟨c, k, i, f, a, cell, h1, h2, h3, h4, h5, h6, h7, h8, h9, h10⟩ := h
  obtain ⟨k', hi', he⟩ := State.fieldFound?_setVm hvm h2
  exact ⟨c, k', i, f, a, cell, by rw [hvm.findClass]; exact h1, hi', h3, by rw [he]; exact h4, h5, h6, h7, h8, by rw [he]; exact h9, h10⟩
theorem vx_L.kept {C n d : String} {A : Nat → Prop} {U : State} {H H1 : Heap} (h : vx_L C n d A U H) (hq : ∀ a : Nat, a < H.size → ¬ A a → H1[a]? = H[a]?) : vx_L C n d A U H1 := by
  obtain ⟨c, k, i, f, a, cell, h1, h2, h3, h4, h5, h6, h7, h8, h9, h10⟩ := h
  exact ⟨c, k, i, f, a, cell, h1, h2, h3, h4, by rw [hq a (Array.getElem?_eq_some_iff.mp h5).1 h10]; exact h5, h6, h7, h8, h9, h10⟩
theorem vx_L.narrow {C n d : String} {A B : Nat → Prop} {U : State} {H : Heap} (h : vx_L C n d A U H) (hAB : ∀ q, B q → A q) : vx_L C n d B U H := by
  obtain ⟨c, k, i, f, a, cell, h1, h2, h3, h4, h5, h6, h7, h8, h9, h10⟩ := h
  exact ⟨c, k, i, f, a, cell, h1, h2, h3, h4, h5, h6, h7, h8, h9, fun z => h10 (hAB _ z)⟩
theorem vx_L.word {C n d : String} {A : Nat → Prop} {s : State} {args : Array Value} (h : vx_L C n d A s s.heap) : (Cond.laysStatic C n d).before args s = true := by
  obtain ⟨c, k, i, f, a, cell, h1, h2, h3, h4, h5, h6, h7, h8, h9, -⟩ := h
  show (Cond.laysStatic C n d).holds args s none s [] = true
  exact Cond.laysStatic_of h1 h2 h3 h4 h5 h6 h7 h8 h9
/-- .. and what it holds: null or some reference -/
def vx_Zq (C n d : String) (A : Nat → Prop) (U : State) (H : Heap) : Prop := va_Zq C n d A U H ∧ vx_L C n d A U H
theorem vx_Zq.moved {C n d : String} {A : Nat → Prop} {u U : State} {H : Heap} (hvm : u.vm.Alike U.vm) (h : vx_Zq C n d A u H) : vx_Zq C n d A U H := ⟨va_Zq.moved hvm h.1, vx_L.moved hvm h.2⟩
theorem vx_Zq.kept {C n d : String} {A : Nat → Prop} {U : State} {H H1 : Heap} (h : vx_Zq C n d A U H) (hq : ∀ a : Nat, a < H.size → ¬ A a → H1[a]? = H[a]?) : vx_Zq C n d A U H1 := ⟨va_Zq.kept h.1 hq, vx_L.kept h.2 hq⟩
theorem vx_Zq.narrow {C n d : String} {A B : Nat → Prop} {U : State} {H : Heap} (h : vx_Zq C n d A U H) (hAB : ∀ q, B q → A q) : vx_Zq C n d B U H := ⟨va_Zq.narrow h.1 hAB, vx_L.narrow h.2 hAB⟩
theorem vx_Zqof {args : Array Value} {s : State} {C n d : String} {A : Nat → Prop} (hl : (Cond.laysStatic C n d).before args s = true) (hini : (Cond.initialized C).before args s = true) (h : (Cond.isRef (.static C n d)).before args s = true) (hA : ∀ a : Nat, a < s.heap.size → ¬ A a) : vx_Zq C n d A s s.heap := by
  refine ⟨va_Zqof hl hini h hA, ?_⟩
  obtain ⟨c, k, i, f, a, cell, h1, h2, h3, h4, h5, h6, h7, h8, h9⟩ := Cond.laysStatic_spec hl
  exact ⟨c, k, i, f, a, cell, h1, h2, h3, h4, h5, h6, h7, h8, h9, hA a (Array.getElem?_eq_some_iff.mp h5).1⟩
theorem vx_isRef {C n d : String} {v : Value} {A : Nat → Prop} {s : State} {args : Array Value} (h : va_Z C n d v A s s.heap) (hv : v.isRef = true) : (Cond.isRef (.static C n d)).before args s = true := by
  obtain ⟨cf, kf, fi, f, a, cell, h1, h2, h3, h4, h5, h6, h7, -⟩ := h
  have he : (Term.static C n d).eval args s none [] s = some v := by
    simp [Term.eval, State.fieldNamed?, h1, h2, h4, h5, h6, h7]
  simp only [Cond.before, Cond.holds, Cond.value, he]
  cases v <;> simp_all [Value.isRef]
theorem vx_isRefq {C n d : String} {A : Nat → Prop} {s : State} {args : Array Value} (h : va_Zq C n d A s s.heap) : (Cond.isRef (.static C n d)).before args s = true := by
  rcases h with h | ⟨t, h⟩
  · exact vx_isRef h rfl
  · exact vx_isRef h rfl
/-- the same frame, seen from here: as if the method were called anew in this heap -/
theorem vx_rebase {T : State} (X : Stand p l e R s m args below meth c T locs cells slots) {R' : Room} (hf : R'.frames ≤ R.frames) (hl : R'.locals ≤ R.locals) (hc : cells + R'.cells ≤ R.cells) (hs : slots + R'.slots ≤ R.slots) :
    Stand p l e R' ((T.setVm s.vm).setFrames (.invoking m args :: below)) m args below meth c T [] 0 0 := by
  have htop : (T.setVm s.vm).topJava?.isSome := X.here.top
  have hF : ((T.setVm s.vm).setFrames (.invoking m args :: below)).frames = .invoking m args :: below := State.frames_setFrames _ (State.cur_lt_of_top htop)
  obtain ⟨g₀, hg0⟩ := Option.isSome_iff_exists.mp htop
  obtain ⟨r, hr⟩ := State.topJava?_eq_some.mp hg0
  have hl9 : e.platform.stackLimits (T.setVm s.vm).me = e.platform.stackLimits s.me := X.limits
  have hb9 : (T.setVm s.vm).me.stackBytes = s.me.stackBytes := X.bytes
  refine ⟨X.admits, X.cas, X.clock, hF, ?_, X.hears, X.method, X.code, X.here, X.tail, X.warmed, ?_, ?_, ?_⟩
  · have h := X.room
    have hU : ((T.setVm s.vm).setFrames (.invoking m args :: below)).localsInUse = s.localsInUse := by
      rw [State.localsInUse_invoking hF (meth := meth) (c := c) X.method X.code, State.localsInUse_invoking X.frames X.method X.code]
    simp only [State.hasRoom, Bool.and_eq_true, decide_eq_true_eq] at h ⊢
    obtain ⟨⟨⟨⟨h1, h2, h3, h4, h5, h6⟩, h7⟩, h8⟩, h9⟩ := h
    rw [X.frames, List.length_cons] at h2 h3
    have q1 := X.heapSize
    have q2 := X.used
    simp only [hF, hU, List.length_cons, State.stackLimits_setFrames, State.stackBytes_setFrames, hl9, hb9]
    refine ⟨⟨⟨⟨by omega, by omega, by omega, by omega, by omega, h6⟩, ?_⟩, ?_⟩, X.book⟩
    · show T.heap.size + R'.cells ≤ e.platform.maxCells
      omega
    · show T.slotsUsed + R'.slots ≤ e.platform.maxSlots
      omega
  · rw [State.stackLimits_setFrames]; rfl
  · rw [State.stackBytes_setFrames]; rfl
  · refine ⟨?_, Nat.le_refl _, Nat.le_refl _, ?_, ?_, fun a c9 h9 => ⟨c9, h9, rfl, rfl, fun _ _ => rfl⟩⟩
    · obtain ⟨t, ht, -⟩ := State.frames_cons hr
      show T.setVm s.vm = { ((T.setVm s.vm).setFrames (.invoking m args :: below)).setFrames (T.setVm s.vm).frames with heap := T.heap, slotsUsed := T.slotsUsed }
      rw [State.setFrames_setFrames, State.setFrames_self ht]
      rfl
    · show T.slotsUsed = T.slotsUsed + ((T.heap.toList.drop T.heap.size).map (·.slots.size)).sum
      rw [List.drop_eq_nil_of_le (Nat.le_of_eq Array.length_toList)]
      rfl
    · show ((T.heap.toList.drop T.heap.size).map (·.slots.size)).sum ≤ 0
      rw [List.drop_eq_nil_of_le (Nat.le_of_eq Array.length_toList)]
      exact Nat.le_refl _
/-- 'throw new E()': new; dup; invokespecial; athrow -/
theorem vx_throw0 {cc : ByteArray} {pc : Nat} (hexec : p.tables.exec = Jvm.exec) (hb : c.code = cc) (hl : l.stackTraces = false) {own cls : String} {names : List String} {ik ic mc ms : Nat} {A : Nat → Prop}
    (hown : s.vm.findClass own = some m.cls) (hcls : Bundle.fit cls = true) (hnames : ∀ n ∈ names, Bundle.fit n = true)
    (hk : (Cond.classLink own ik cls).before args s = true) (hini : (Cond.initialized cls).before args s = true) (hat : ∀ w ∈ vx_at0 own ic cls names, w.before args s = true)
    (hgood : ∀ w ∈ Cond.classLink own ik cls :: Cond.initialized cls :: vx_at0 own ic cls names, vx_ot w = true)
    (hU : vx_Zq Bundle.tN "UNASSIGNED_STACK" Bundle.steD A s s.heap) (hN : vx_Zq Bundle.tN "SUPPRESSED_SENTINEL" Bundle.listD A s s.heap) (hS : va_S A s.heap H locs) (hsize : ls.size = c.maxLocals)
    (d0 : decode cc pc = .ok (.new ik, 3)) (d3 : decode cc (pc + 3) = .ok (.dup, 1)) (d4 : decode cc (pc + 4) = .ok (.invokespecial ic, 3)) (d7 : decode cc (pc + 7) = .ok (.athrow, 1))
    (hout : ∀ x ∈ c.exceptionTable.toList, covers x (pc + 7) = false)
    (hRframes : names.length + 3 < R.frames) (hRlocals : (rest.map fun v => v.category).sum + (13 * (names.length + 1) + 42) ≤ R.locals) (hRcells : cells + 1 ≤ R.cells) (hRslots : slots + 6 ≤ R.slots) (hlocks : meth.locks = false)
    (hx : ∀ t : State, s.vm.Alike t.vm → H.size ≤ t.heap.size → (∀ q : Nat, q < H.size → t.heap[q]? = H[q]?) → XC cls s t)
    (hf : ∀ z ∈ locs, free z.base) (hc : cells + 1 ≤ mc) (hs : slots + 6 ≤ ms) :
    W p l e R s m args below meth c H locs cells slots (vx_MQ below Qc XC args s mc ms free) (F0 m pc ls rest) := by
  intro T hT X
  have htr : e.platform.stackTraces = false := (show e.platform.stackTraces = l.stackTraces by rw [X.admits.platform]).trans hl
  have Y := vx_rebase X (R' := { frames := R.frames, locals := R.locals, cells := 1, slots := 6 }) (Nat.le_refl _) (Nat.le_refl _) hRcells hRslots
  obtain ⟨s', hA⟩ : ∃ z, z = (T.setVm s.vm).setFrames (.invoking m args :: below) := ⟨_, rfl⟩
  rw [← hA] at Y
  have hvm : s'.vm = s.vm := by rw [hA]; rfl
  have hhp : s'.heap = H := by rw [hA]; exact hT
  have hW0 : s.WarmedH s'.vm := by rw [hvm]; exact State.WarmedH.refl s
  have hat' : ∀ w ∈ vx_at0 own ic cls names, w.before args s' = true := fun w hw => vx_ot_at hW0 hvm.symm (hgood w (List.mem_cons_of_mem _ (List.mem_cons_of_mem _ hw))) (hat w hw)
  have hk' : (Cond.classLink own ik cls).before args s' = true := vx_ot_at hW0 hvm.symm (hgood _ List.mem_cons_self) hk
  have hini' : (Cond.initialized cls).before args s' = true := vx_ot_at hW0 hvm.symm (hgood _ (List.mem_cons_of_mem _ List.mem_cons_self)) hini
  have hU' : vx_Zq Bundle.tN "UNASSIGNED_STACK" Bundle.steD A s' s'.heap := by rw [hhp]; exact vx_Zq.moved hW0.alike (hU.kept hS.2.1)
  have hN' : vx_Zq Bundle.tN "SUPPRESSED_SENTINEL" Bundle.listD A s' s'.heap := by rw [hhp]; exact vx_Zq.moved hW0.alike (hN.kept hS.2.1)
  have h : ∀ w ∈ Bundle.ownAtoms0 own ic cls names, w.before args s' = true := vx_own hat' (vx_isRefq hU'.1) (vx_isRefq hN'.1) hU'.2.word hN'.2.word
  have hown' : s'.vm.findClass own = some m.cls := by rw [hvm]; exact hown
  have hins : (Cond.instantiable cls 6).before args s' = true := h _ (by simp [Bundle.ownAtoms0])
  obtain ⟨vm₁, cX, kX, hfX, hkX, -, -, X₁, st1⟩ := Y.newCold hexec (own := own) (C := cls) (index := ik) (n := 6) hown' hk' hins hini'
    (g := F0 m pc ls rest) rfl (by rw [hb]; exact d0) (Nat.le_refl _) (Nat.le_refl _)
  generalize hT1 : (T.setVm vm₁).pushCell { cls := cX, slots := kX.instanceTypes.map defaultValue, vm := .none } = T1 at X₁ st1
  have hcat : (Value.ref T.heap.size).category = 1 := rfl
  have hcellA : T1.heap[T.heap.size]? = some (freshCell cX kX) := by rw [← hT1]; exact State.heap_pushCell_size _ _
  have d3' : decode c.code (pc + 3) = .ok (.dup, 1) := by rw [hb]; exact d3
  obtain ⟨U, hsteps, hrun, hend, hW, hsame, ce, hce, hO⟩ := X₁.ctorThrow0 hexec htr (own := own) (cls := cls) (names := names) (ic := ic) hown' hcls hnames h (fun x hx => nomatch hx) hfX hkX hcellA (by rw [hhp, hT]; exact Nat.le_refl _)
    (g := { method := m, pc := pc + 4, locals := ls, stack := .ref T.heap.size :: .ref T.heap.size :: rest, locked := none }) rfl hsize rfl rfl (rest := rest) rfl
    (by rw [hb]; exact d4) (by rw [hb]; exact d7) hout hRframes (by simp only [List.map_cons, List.sum_cons, hcat]; omega) hlocks
  obtain ⟨f1, f2⟩ := vx_frame hsame
  rw [hhp] at f1 f2
  have hWs : s.WarmedH U.vm := State.WarmedH.trans hW0 hW
  have hcl : s.vm.findClass cls = some ce.cls := by
    have h9 := hO.cls
    rw [hvm] at h9
    exact h9
  have hall : s.sameButNew ({ U with vm := s.vm } : State) locs mc ms := by
    subst hA
    obtain ⟨e1, e2⟩ := hsame
    rw [State.setFrames_setFrames] at e1
    have h2 : (T.setVm s.vm).sameButNew ({ U with vm := s.vm } : State) [] (0 + 1) (0 + 6) := ⟨e1, e2⟩
    have h3 := X.same.trans h2
    rw [List.append_nil] at h3
    exact h3.mono hc hs
  refine ⟨U, ?_, .threw T.heap.size, hrun, hend, Or.inr ⟨T.heap.size, rfl, cls, ce, locs, hx U hWs.alike f1 (fun q hq => f2 q hq (fun z hz => nomatch hz)), hce, hO.vm, hcl, hWs, hall, hf⟩⟩
  refine st1 _ ?_
  show Steps p.tables e below (T1.setTop { method := m, pc := pc + 3, locals := ls, stack := .ref T.heap.size :: rest, locked := none }) _
  jvm_step X₁.here [X₁.here.top, hexec, d3', Value.category]
  exact hsteps
/-- 'throw new E("text")': new; dup; ldc; invokespecial; athrow -/
theorem vx_throwS {cc : ByteArray} {pc : Nat} (hexec : p.tables.exec = Jvm.exec) (hb : c.code = cc) (hl : l.stackTraces = false) {own cls text : String} {names : List String} {ik is ic mc ms sa : Nat} {A : Nat → Prop}
    (hown : s.vm.findClass own = some m.cls) (hcls : Bundle.fit cls = true) (hnames : ∀ n ∈ names, Bundle.fit n = true)
    (hk : (Cond.classLink own ik cls).before args s = true) (hini : (Cond.initialized cls).before args s = true) (hstr : vk_R own is text sa s) (hat : ∀ w ∈ vx_atS own ic cls names, w.before args s = true)
    (hgood : ∀ w ∈ Cond.classLink own ik cls :: Cond.initialized cls :: vx_atS own ic cls names, vx_ot w = true)
    (hU : vx_Zq Bundle.tN "UNASSIGNED_STACK" Bundle.steD A s s.heap) (hN : vx_Zq Bundle.tN "SUPPRESSED_SENTINEL" Bundle.listD A s s.heap) (hS : va_S A s.heap H locs) (hsize : ls.size = c.maxLocals)
    (d0 : decode cc pc = .ok (.new ik, 3)) (d3 : decode cc (pc + 3) = .ok (.dup, 1)) (d4 : decode cc (pc + 4) = .ok (.ldc is, 2)) (d6 : decode cc (pc + 6) = .ok (.invokespecial ic, 3)) (d9 : decode cc (pc + 9) = .ok (.athrow, 1))
    (hout : ∀ x ∈ c.exceptionTable.toList, covers x (pc + 9) = false)
    (hRframes : names.length + 3 < R.frames) (hRlocals : (rest.map fun v => v.category).sum + (13 * (names.length + 1) + 43) ≤ R.locals) (hRcells : cells + 1 ≤ R.cells) (hRslots : slots + 6 ≤ R.slots) (hlocks : meth.locks = false)
    (hx : ∀ t : State, s.vm.Alike t.vm → H.size ≤ t.heap.size → (∀ q : Nat, q < H.size → t.heap[q]? = H[q]?) → XC cls s t)
    (hf : ∀ z ∈ locs, free z.base) (hc : cells + 1 ≤ mc) (hs : slots + 6 ≤ ms) :
    W p l e R s m args below meth c H locs cells slots (vx_MQ below Qc XC args s mc ms free) (F0 m pc ls rest) := by
  intro T hT X
  have htr : e.platform.stackTraces = false := (show e.platform.stackTraces = l.stackTraces by rw [X.admits.platform]).trans hl
  have Y := vx_rebase X (R' := { frames := R.frames, locals := R.locals, cells := 1, slots := 6 }) (Nat.le_refl _) (Nat.le_refl _) hRcells hRslots
  obtain ⟨s', hA⟩ : ∃ z, z = (T.setVm s.vm).setFrames (.invoking m args :: below) := ⟨_, rfl⟩
  rw [← hA] at Y
  have hvm : s'.vm = s.vm := by rw [hA]; rfl
  have hhp : s'.heap = H := by rw [hA]; exact hT
  have hW0 : s.WarmedH s'.vm := by rw [hvm]; exact State.WarmedH.refl s
  have hat' : ∀ w ∈ vx_atS own ic cls names, w.before args s' = true := fun w hw => vx_ot_at hW0 hvm.symm (hgood w (List.mem_cons_of_mem _ (List.mem_cons_of_mem _ hw))) (hat w hw)
  have hk' : (Cond.classLink own ik cls).before args s' = true := vx_ot_at hW0 hvm.symm (hgood _ List.mem_cons_self) hk
  have hini' : (Cond.initialized cls).before args s' = true := vx_ot_at hW0 hvm.symm (hgood _ (List.mem_cons_of_mem _ List.mem_cons_self)) hini
  have hU' : vx_Zq Bundle.tN "UNASSIGNED_STACK" Bundle.steD A s' s'.heap := by rw [hhp]; exact vx_Zq.moved hW0.alike (hU.kept hS.2.1)
  have hN' : vx_Zq Bundle.tN "SUPPRESSED_SENTINEL" Bundle.listD A s' s'.heap := by rw [hhp]; exact vx_Zq.moved hW0.alike (hN.kept hS.2.1)
  have h : ∀ w ∈ Bundle.ownAtoms own ic cls names, w.before args s' = true := vx_own hat' (vx_isRefq hU'.1) (vx_isRefq hN'.1) hU'.2.word hN'.2.word
  have hown' : s'.vm.findClass own = some m.cls := by rw [hvm]; exact hown
  have hins : (Cond.instantiable cls 6).before args s' = true := h _ (by simp [Bundle.ownAtoms])
  obtain ⟨vm₁, cX, kX, hfX, hkX, -, -, X₁, st1⟩ := Y.newCold hexec (own := own) (C := cls) (index := ik) (n := 6) hown' hk' hins hini'
    (g := F0 m pc ls rest) rfl (by rw [hb]; exact d0) (Nat.le_refl _) (Nat.le_refl _)
  generalize hT1 : (T.setVm vm₁).pushCell { cls := cX, slots := kX.instanceTypes.map defaultValue, vm := .none } = T1 at X₁ st1
  have hcat : (Value.ref T.heap.size).category = 1 := rfl
  have hcellA : T1.heap[T.heap.size]? = some (freshCell cX kX) := by rw [← hT1]; exact State.heap_pushCell_size _ _
  have d3' : decode c.code (pc + 3) = .ok (.dup, 1) := by rw [hb]; exact d3
  have d4' : decode c.code (pc + 4) = .ok (.ldc is, 2) := by rw [hb]; exact d4
  have hstr' : vk_R own is text sa s' := vk_R.warm hW0 hstr
  obtain ⟨U, hsteps, hrun, hend, hW, hsame, ce, hce, hO⟩ := X₁.ctorThrowS hexec htr (own := own) (cls := cls) (names := names) (ic := ic) hown' hcls hnames h (fun x hx => nomatch hx) hfX hkX hcellA (by rw [hhp, hT]; exact Nat.le_refl _) (msg := .ref sa) rfl
    (g := { method := m, pc := pc + 6, locals := ls, stack := .ref sa :: .ref T.heap.size :: .ref T.heap.size :: rest, locked := none }) rfl hsize rfl rfl (rest := rest) rfl
    (by rw [hb]; exact d6) (by rw [hb]; exact d9) hout hRframes (by simp only [List.map_cons, List.sum_cons, hcat]; omega) hlocks
  obtain ⟨f1, f2⟩ := vx_frame hsame
  rw [hhp] at f1 f2
  have hWs : s.WarmedH U.vm := State.WarmedH.trans hW0 hW
  have hcl : s.vm.findClass cls = some ce.cls := by
    have h9 := hO.cls
    rw [hvm] at h9
    exact h9
  have hall : s.sameButNew ({ U with vm := s.vm } : State) locs mc ms := by
    subst hA
    obtain ⟨e1, e2⟩ := hsame
    rw [State.setFrames_setFrames] at e1
    have h2 : (T.setVm s.vm).sameButNew ({ U with vm := s.vm } : State) [] (0 + 1) (0 + 6) := ⟨e1, e2⟩
    have h3 := X.same.trans h2
    rw [List.append_nil] at h3
    exact h3.mono hc hs
  refine ⟨U, ?_, .threw T.heap.size, hrun, hend, Or.inr ⟨T.heap.size, rfl, cls, ce, locs, hx U hWs.alike f1 (fun q hq => f2 q hq (fun z hz => nomatch hz)), hce, hO.vm, hcl, hWs, hall, hf⟩⟩
  refine st1 _ ?_
  show Steps p.tables e below (T1.setTop { method := m, pc := pc + 3, locals := ls, stack := .ref T.heap.size :: rest, locked := none }) _
  jvm_step X₁.here [X₁.here.top, hexec, d3', Value.category]
  exact X₁.ldcString hexec (own := own) (text := text) (index := is) (a := sa) hown' hstr'.1 hstr'.2
    (g := { method := m, pc := pc + 4, locals := ls, stack := .ref T.heap.size :: .ref T.heap.size :: rest, locked := none }) rfl d4' _ hsteps
/-- 'throw new E("text")', the text by a wide index -/
theorem vx_throwSW {cc : ByteArray} {pc : Nat} (hexec : p.tables.exec = Jvm.exec) (hb : c.code = cc) (hl : l.stackTraces = false) {own cls text : String} {names : List String} {ik is ic mc ms sa : Nat} {A : Nat → Prop}
    (hown : s.vm.findClass own = some m.cls) (hcls : Bundle.fit cls = true) (hnames : ∀ n ∈ names, Bundle.fit n = true)
    (hk : (Cond.classLink own ik cls).before args s = true) (hini : (Cond.initialized cls).before args s = true) (hstr : vk_R own is text sa s) (hat : ∀ w ∈ vx_atS own ic cls names, w.before args s = true)
    (hgood : ∀ w ∈ Cond.classLink own ik cls :: Cond.initialized cls :: vx_atS own ic cls names, vx_ot w = true)
    (hU : vx_Zq Bundle.tN "UNASSIGNED_STACK" Bundle.steD A s s.heap) (hN : vx_Zq Bundle.tN "SUPPRESSED_SENTINEL" Bundle.listD A s s.heap) (hS : va_S A s.heap H locs) (hsize : ls.size = c.maxLocals)
    (d0 : decode cc pc = .ok (.new ik, 3)) (d3 : decode cc (pc + 3) = .ok (.dup, 1)) (d4 : decode cc (pc + 4) = .ok (.ldc_w is, 3)) (d7 : decode cc (pc + 7) = .ok (.invokespecial ic, 3)) (d10 : decode cc (pc + 10) = .ok (.athrow, 1))
    (hout : ∀ x ∈ c.exceptionTable.toList, covers x (pc + 10) = false)
    (hRframes : names.length + 3 < R.frames) (hRlocals : (rest.map fun v => v.category).sum + (13 * (names.length + 1) + 43) ≤ R.locals) (hRcells : cells + 1 ≤ R.cells) (hRslots : slots + 6 ≤ R.slots) (hlocks : meth.locks = false)
    (hx : ∀ t : State, s.vm.Alike t.vm → H.size ≤ t.heap.size → (∀ q : Nat, q < H.size → t.heap[q]? = H[q]?) → XC cls s t)
    (hf : ∀ z ∈ locs, free z.base) (hc : cells + 1 ≤ mc) (hs : slots + 6 ≤ ms) :
    W p l e R s m args below meth c H locs cells slots (vx_MQ below Qc XC args s mc ms free) (F0 m pc ls rest) := by
  intro T hT X
  have htr : e.platform.stackTraces = false := (show e.platform.stackTraces = l.stackTraces by rw [X.admits.platform]).trans hl
  have Y := vx_rebase X (R' := { frames := R.frames, locals := R.locals, cells := 1, slots := 6 }) (Nat.le_refl _) (Nat.le_refl _) hRcells hRslots
  obtain ⟨s', hA⟩ : ∃ z, z = (T.setVm s.vm).setFrames (.invoking m args :: below) := ⟨_, rfl⟩
  rw [← hA] at Y
  have hvm : s'.vm = s.vm := by rw [hA]; rfl
  have hhp : s'.heap = H := by rw [hA]; exact hT
  have hW0 : s.WarmedH s'.vm := by rw [hvm]; exact State.WarmedH.refl s
  have hat' : ∀ w ∈ vx_atS own ic cls names, w.before args s' = true := fun w hw => vx_ot_at hW0 hvm.symm (hgood w (List.mem_cons_of_mem _ (List.mem_cons_of_mem _ hw))) (hat w hw)
  have hk' : (Cond.classLink own ik cls).before args s' = true := vx_ot_at hW0 hvm.symm (hgood _ List.mem_cons_self) hk
  have hini' : (Cond.initialized cls).before args s' = true := vx_ot_at hW0 hvm.symm (hgood _ (List.mem_cons_of_mem _ List.mem_cons_self)) hini
  have hU' : vx_Zq Bundle.tN "UNASSIGNED_STACK" Bundle.steD A s' s'.heap := by rw [hhp]; exact vx_Zq.moved hW0.alike (hU.kept hS.2.1)
  have hN' : vx_Zq Bundle.tN "SUPPRESSED_SENTINEL" Bundle.listD A s' s'.heap := by rw [hhp]; exact vx_Zq.moved hW0.alike (hN.kept hS.2.1)
  have h : ∀ w ∈ Bundle.ownAtoms own ic cls names, w.before args s' = true := vx_own hat' (vx_isRefq hU'.1) (vx_isRefq hN'.1) hU'.2.word hN'.2.word
  have hown' : s'.vm.findClass own = some m.cls := by rw [hvm]; exact hown
  have hins : (Cond.instantiable cls 6).before args s' = true := h _ (by simp [Bundle.ownAtoms])
  obtain ⟨vm₁, cX, kX, hfX, hkX, -, -, X₁, st1⟩ := Y.newCold hexec (own := own) (C := cls) (index := ik) (n := 6) hown' hk' hins hini'
    (g := F0 m pc ls rest) rfl (by rw [hb]; exact d0) (Nat.le_refl _) (Nat.le_refl _)
  generalize hT1 : (T.setVm vm₁).pushCell { cls := cX, slots := kX.instanceTypes.map defaultValue, vm := .none } = T1 at X₁ st1
  have hcat : (Value.ref T.heap.size).category = 1 := rfl
  have hcellA : T1.heap[T.heap.size]? = some (freshCell cX kX) := by rw [← hT1]; exact State.heap_pushCell_size _ _
  have d3' : decode c.code (pc + 3) = .ok (.dup, 1) := by rw [hb]; exact d3
  have d4' : decode c.code (pc + 4) = .ok (.ldc_w is, 3) := by rw [hb]; exact d4
  have hstr' : vk_R own is text sa s' := vk_R.warm hW0 hstr
  obtain ⟨U, hsteps, hrun, hend, hW, hsame, ce, hce, hO⟩ := X₁.ctorThrowS hexec htr (own := own) (cls := cls) (names := names) (ic := ic) hown' hcls hnames h (fun x hx => nomatch hx) hfX hkX hcellA (by rw [hhp, hT]; exact Nat.le_refl _) (msg := .ref sa) rfl
    (g := { method := m, pc := pc + 7, locals := ls, stack := .ref sa :: .ref T.heap.size :: .ref T.heap.size :: rest, locked := none }) rfl hsize rfl rfl (rest := rest) rfl
    (by rw [hb]; exact d7) (by rw [hb]; exact d10) hout hRframes (by simp only [List.map_cons, List.sum_cons, hcat]; omega) hlocks
  obtain ⟨f1, f2⟩ := vx_frame hsame
  rw [hhp] at f1 f2
  have hWs : s.WarmedH U.vm := State.WarmedH.trans hW0 hW
  have hcl : s.vm.findClass cls = some ce.cls := by
    have h9 := hO.cls
    rw [hvm] at h9
    exact h9
  have hall : s.sameButNew ({ U with vm := s.vm } : State) locs mc ms := by
    subst hA
    obtain ⟨e1, e2⟩ := hsame
    rw [State.setFrames_setFrames] at e1
    have h2 : (T.setVm s.vm).sameButNew ({ U with vm := s.vm } : State) [] (0 + 1) (0 + 6) := ⟨e1, e2⟩
    have h3 := X.same.trans h2
    rw [List.append_nil] at h3
    exact h3.mono hc hs
  refine ⟨U, ?_, .threw T.heap.size, hrun, hend, Or.inr ⟨T.heap.size, rfl, cls, ce, locs, hx U hWs.alike f1 (fun q hq => f2 q hq (fun z hz => nomatch hz)), hce, hO.vm, hcl, hWs, hall, hf⟩⟩
  refine st1 _ ?_
  show Steps p.tables e below (T1.setTop { method := m, pc := pc + 3, locals := ls, stack := .ref T.heap.size :: rest, locked := none }) _
  jvm_step X₁.here [X₁.here.top, hexec, d3', Value.category]
  exact X₁.ldcStringW hexec (own := own) (text := text) (index := is) (a := sa) hown' hstr'.1 hstr'.2
    (g := { method := m, pc := pc + 4, locals := ls, stack := .ref T.heap.size :: .ref T.heap.size :: rest, locked := none }) rfl d4' _ hsteps
end Ends
section Bodies
variable {l : Launch}
theorem vx_ofW {y : MethodName} {ws ws' : List Cond} {rm : Room} {Pc : Array Value → State → Prop} {Qc : Array Value → State → Outcome → State → Prop} {XC : String → State → State → Prop} {mc ms : Nat} {free : Addr → Prop} {cc : ByteArray} {maxL : Nat} {ret : Option FieldType}
    (hy : plainName y.cls = true) (hw : ws = Cond.code y cc maxL ret :: ws')
    (body : ∀ p e s m args below meth c s₁, BodyLoose p l y (headSpec ws rm) cc maxL ret e s m args below meth c s₁ → c.maxLocals = maxL → (∀ x ∈ c.exceptionTable.toList, False) → Pc args s →
      W p l e (headSpec ws rm).room s m args below meth c s.heap [] 0 0 (vx_MQ below Qc XC args s mc ms free) (entryFrame m args maxL)) : vx_Met l y ws rm Pc Qc XC mc ms free := by
  refine MetFree.of_bodyS (code := cc) (maxLocals := maxL) (ret := ret) hy ?_ ?_
  · intro args s m h hn
    obtain ⟨meth, c, h1, h2, h3, h4, h5, h6, -, -⟩ := Cond.code_spec hn (atoms_spec (ws := ws) h _ (by rw [hw]; exact List.mem_cons_self))
    exact ⟨meth, c, h1, h2, h3, h4, h5, h6⟩
  · intro p e s m args below meth c s₁ B hml hP _
    have hh0 : s₁.heap = s.heap := by rw [B.state]; rfl
    have ht : ∀ x ∈ c.exceptionTable.toList, False := by
      obtain ⟨meth9, c9, h1, h2, -, -, -, -, h7, -⟩ := Cond.code_spec B.named (atoms_spec (ws := ws) B.pre _ (by rw [hw]; exact List.mem_cons_self))
      cases Option.some.inj (h1.symm.trans B.method)
      cases Option.some.inj (h2.symm.trans (Stand.of_body B).code)
      intro x hx
      rw [Array.isEmpty_iff.mp h7] at hx
      cases hx
    obtain ⟨t, a1, o, b1, b2, b3⟩ := body p e s m args below meth c s₁ B hml ht hP s₁ hh0 (Stand.of_body B)
    exact ⟨t, o, a1, b1, b2, b3⟩
/-- the table of a body with handlers -/
theorem vx_table {p : Program} {x y : MethodName} {S : Spec} {cc bytes : ByteArray} {maxL maxL' : Nat} {ret ret' : Option FieldType} {e : Env} {s s₁ : State} {m : MethodId} {args : Array Value} {below : List Frame} {meth : Method} {c : Code} {hh : List (Nat × Nat × Nat × Nat)}
    (B : BodyLoose p l y S cc maxL ret e s m args below meth c s₁) (h : (Cond.codeWith y bytes maxL' ret' hh).before args s = true) : c.exceptionTable.toList = tableOf hh := by
  obtain ⟨m9, meth9, c9, hn9, h1, h2, -, -, h6, -⟩ := Cond.codeWith_spec h
  cases Option.some.inj (hn9.symm.trans B.named)
  cases Option.some.inj (h1.symm.trans B.method)
  cases Option.some.inj (h2.symm.trans (Stand.of_body B).code)
  rw [← h6, table_eq]
end Bodies
end VXA
/-! ===== END ===== -/
/-! ===== BEGIN a static call of a method with an exception table ===== -/
section VXS
variable {p : Program} {l : Launch} {e : Env} {R : Room} {s : State} {m : MethodId} {args : Array Value} {below : List Frame} {meth : Method} {c : Code} {T : State} {H : Heap} {locs : List Loc} {cells slots : Nat}
abbrev vx_CSW (R : Room) (s : State) (args : Array Value) (own : String) (index : Nat) (y : MethodName) (bytes : ByteArray) (maxL : Nat) (ret : Option FieldType) (hh : List (Nat × Nat × Nat × Nat)) (ws : List Cond) (rm : Room) (mc ms n : Nat) : Prop :=
  (rm.cells = mc ∧ rm.slots = ms ∧ rm.frames + 1 ≤ R.frames ∧ 8 + (maxL + 11) + rm.locals ≤ R.locals ∧ (∀ w ∈ ws, ∀ (a' : Array Value) (U : State), s.WarmedH U.vm → w.before a' U = true) ∧ Cond.codeWith y bytes maxL ret hh ∈ ws) ∧
  (Cond.codeWith y bytes maxL ret hh).before args s = true ∧ (Cond.initialized y.cls).before args s = true ∧ (y.cls ≠ "java/lang/invoke/MethodHandle" ∧ y.cls ≠ "java/lang/invoke/VarHandle") ∧
  (∀ sig, parseMethodDescriptor y.desc = some sig → n = sig.parameters.length) ∧ (Cond.methodLink own index y).before args s = true ∧ (Cond.static y).before args s = true
theorem vx_cwSW {own : String} {index maxL mc ms : Nat} {y : MethodName} {bytes : ByteArray} {ret : Option FieldType} {hh : List (Nat × Nat × Nat × Nat)} {Ts ws ws' : List Cond} {rm : Room} (n : Nat) (ht : ∀ w ∈ Ts, w.before args s = true) (hT : GoodIn Ts (va_wsS own index y ws)) (hw : ws = Cond.codeWith y bytes maxL ret hh :: ws') (hrc : rm.cells = mc) (hrs : rm.slots = ms)
    (hd : y.cls ≠ "java/lang/invoke/MethodHandle" ∧ y.cls ≠ "java/lang/invoke/VarHandle" ∧ (parseMethodDescriptor y.desc).map (fun d => d.parameters.length) = some n) (hR : rm.frames + 1 ≤ R.frames ∧ 8 + (maxL + 11) + rm.locals ≤ R.locals) :
    vx_CSW R s args own index y bytes maxL ret hh ws rm mc ms n := by
  have ok : ∀ w ∈ va_wsS own index y ws, w.before args s = true := fun w h => ht w (hT w h).1
  have hG : GoodIn Ts ws := fun w h => hT w (by unfold va_wsS; exact List.mem_append_right _ h)
  have hc : Cond.codeWith y bytes maxL ret hh ∈ ws := by rw [hw]; exact List.mem_cons_self
  refine ⟨⟨hrc, hrs, hR.1, hR.2, pay_in ht hG, hc⟩, ht _ (hG _ hc).1, ok _ (by simp [va_wsS]), ⟨hd.1, hd.2.1⟩, fun sig h => ?_, ok _ (by simp [va_wsS]), ok _ (by simp [va_wsS])⟩
  have h2 := hd.2.2
  rw [h] at h2
  exact (Option.some.inj h2).symm
theorem vx_callSW (X : Stand p l e R s m args below meth c T locs cells slots) (hexec : p.tables.exec = Jvm.exec) {own : String} {index : Nat} {y : MethodName} {bytes : ByteArray} {maxL : Nat} {ret : Option FieldType} {hh : List (Nat × Nat × Nat × Nat)}
    (hown : s.vm.findClass own = some m.cls) (hlink : (Cond.methodLink own index y).before args s = true) (hstat : (Cond.static y).before args s = true) (hinit : (Cond.initialized y.cls).before args s = true)
    (hcode : (Cond.codeWith y bytes maxL ret hh).before args s = true) (hy : y.cls ≠ "java/lang/invoke/MethodHandle" ∧ y.cls ≠ "java/lang/invoke/VarHandle")
    {W9 : Nat} {Pre : Pt → Array Value → Prop} {Post : Pt → Array Value → Option Value → Pt → Prop} (hK : Back l R p e below s args y 3 W9 Pre Post)
    {g : JFrame} (hg : g.method = m) (hsize : g.locals.size = c.maxLocals) {argsL rest : List Value} (hlen : ∀ sig, parseMethodDescriptor y.desc = some sig → argsL.length = sig.parameters.length)
    (hstack : g.stack = argsL.reverse ++ rest) (hW : 2 * g.monitorRoom + (rest.map fun v => v.category).sum ≤ W9) (hdg : decode c.code g.pc = .ok (.invokestatic index, 3))
    (hpre : ∀ vm₁, s.WarmedH vm₁ → Pre ⟨T.setVm vm₁, locs, cells, slots⟩ argsL.toArray) :
    ∃ (v : Option Value) (vm₁ : Vm) (B : Pt), s.WarmedH vm₁ ∧ Stand p l e R s m args below meth c B.U B.locs B.cells B.slots ∧ Post ⟨T.setVm vm₁, locs, cells, slots⟩ argsL.toArray v B ∧
      ∀ target, Steps p.tables e below (B.U.setTop { g with pc := g.pc + 3, stack := v.toList ++ rest }) target → Steps p.tables e below (T.setTop g) target := by
  obtain ⟨mk, methM, cM, hnamed, hmethM, -, -, -, -, -, -, hsigM⟩ := Cond.codeWith_spec hcode
  have hstatic : methM.isStatic = true := Cond.static_spec hnamed hmethM hstat
  obtain ⟨kP, hkP, -⟩ := className_of_methodNamed hnamed
  have hinitP : kP.init = .initialized := Cond.initialized_spec (findClass_of_methodNamed hnamed) hkP hinit
  obtain ⟨vm₁, X₁, hstep₁⟩ := X.invokestatic hexec hown hlink hnamed hmethM hstatic hkP hinitP hy (g := g) hg (argsL := argsL) (rest := rest) (hlen _ hsigM) hstack hdg
  obtain ⟨v, B, X', hpost, hsteps⟩ := hK m meth c ⟨T.setVm vm₁, locs, cells, slots⟩ { g with stack := rest } (.invokestatic index) mk argsL.toArray X₁ hg hsize hdg hW (X₁.named hnamed) (hpre vm₁ X₁.warmed)
  exact ⟨v, vm₁, B, X₁.warmed, X', hpost, fun target h => hstep₁ _ fun acts => by rw [doInvoke_state]; exact hsteps.trans h⟩
theorem vx_runSW {y : MethodName} {bytes cc : ByteArray} {maxL nL mc ms n index : Nat} {ret : Option FieldType} {hh : List (Nat × Nat × Nat × Nat)} {ws : List Cond} {rm : Room} {Pc : Array Value → State → Prop} {Qc : Array Value → State → Outcome → State → Prop} {free : Addr → Prop} {Ts : List Cond} {own : String} {As rest : List Value} {g : JFrame}
    (S : CallFix p m c cc nL s args Ts own) (hM : Met l y ws rm Pc Qc mc ms free) (cw : vx_CSW R s args own index y bytes maxL ret hh ws rm mc ms n) (hp : PreS s H Pc As)
    (hg : g.method = m) (hn : As.length = n) (hsize : g.locals.size = nL) (hstack : g.stack = As.reverse ++ rest) (hW : 2 * g.monitorRoom + (rest.map fun v => v.category).sum ≤ 8) (hdg : decode cc g.pc = .ok (.invokestatic index, 3)) (hf : cells + mc ≤ R.cells ∧ slots + ms ≤ R.slots) :
    va_Run p l e R s m args below meth c H locs cells slots mc ms g rest (Qc As.toArray) (free) := by
  obtain ⟨⟨hrc, hrs, hfr, hlo, hws, hcw⟩, hcode, hini, hy, hlen, hl, hstt⟩ := cw
  have hK : Back l R p e below s args y 3 8 (PreOf R mc ms Pc) (PostOf Qc mc ms free) := va_backW (hh := hh) (bytes := bytes) (maxL := maxL) (ret := ret) hM hp.1 hrc hrs hfr hlo hws hcw (fun a' U hW => word_at hW (Or.inl (by first | rfl | simp [Cond.onTables, Cond.keeps, Cond.steady])) hini)
  obtain ⟨hx, hb, hml, ho, -⟩ := S
  intro T hT X
  obtain ⟨v, vm₁, ⟨U', l2, c2, s2⟩, hW₁, X', ⟨g', mk, t, L, e1, e2, hq, h1, hL, h2, h3⟩, st⟩ := vx_callSW X hx (hh := hh) (bytes := bytes) (maxL := maxL) (ret := ret) ho hl hstt hini hcode hy hK hg (hsize.trans hml.symm) (argsL := As) (rest := rest) (fun sig h => hn.trans (hlen sig h)) hstack hW (by rw [hb]; exact hdg)
    (fun vm₁ hW₁ => ⟨hf.1, hf.2, hp.2 (T.setVm vm₁) hT hW₁⟩)
  dsimp only [Pt.U, Pt.locs, Pt.cells, Pt.slots] at X' e1 e2 h1 h2 h3 st
  subst h1; subst h2; subst h3
  exact ⟨v, (T.setVm vm₁).calling g' mk As.toArray, t, U', L, hT, X', hL, e1, e2, hq, st⟩
/-- not caught here, past rows that name other classes: it goes on to the caller -/
theorem vx_outP {p : Program} {l : Launch} {e : Env} {R : Room} {s : State} {m : MethodId} {args : Array Value} {below : List Frame} {meth : Method} {c : Code} {H : Heap} {locs : List Loc} {cells slots : Nat} {free : Addr → Prop} {ls : Array Slot} {rest : List Value} {Qc : Array Value → State → Outcome → State → Prop} {XC : String → State → State → Prop}
    {pc : Nat} {own E : String} {ce : Cell} {q : Addr} {mc ms : Nat} (hown : s.vm.findClass own = some m.cls) (hlocks : meth.locks = false)
    (hpass : ∀ z ∈ c.exceptionTable.toList, covers z pc = false ∨ (z.catchType ≠ 0 ∧ ∃ nm : String, (Cond.classLink own z.catchType nm).before args s = true ∧ va_Nc E nm s)) (hcell : H[q]? = some ce) (hv : ce.vm = .none) (hcl : s.vm.findClass E = some ce.cls)
    (hx : ∀ t : State, t.heap = H → s.vm.Alike t.vm → XC E s t) (hf : ∀ z ∈ locs, free z.base) (hc : cells ≤ mc) (hs : slots ≤ ms) :
    vx_W p l e R s m args below meth c H locs cells slots (vx_MQ below Qc XC args s mc ms free) (F0 m pc ls rest) q := by
  intro T hT X
  have hpl : e.platform.magicAccessors = ({} : Platform).magicAccessors := by rw [X.admits.platform]
  obtain ⟨vm', hW', X', st⟩ := X.outThrough hlocks q (g := F0 m pc ls rest) rfl rfl rfl (cell := ce) (by rw [hT]; exact hcell) (by rw [hv]; rfl)
    (by obtain ⟨k9, h9, -⟩ := Vm.findClass_spec hcl; exact ⟨k9, h9⟩) (fun z hz => by
      rcases hpass z hz with h | ⟨hz0, nm, hl1, hn1⟩
      · exact Or.inl h
      · obtain ⟨c6, hc6, hcl6⟩ := Cond.classLink_spec hown hl1 e.platform hpl
        obtain ⟨a8, b8, h1, h2, h3⟩ := hn1
        cases Option.some.inj (h1.symm.trans hcl)
        cases Option.some.inj (h2.symm.trans hc6)
        exact Or.inr ⟨hz0, _, hcl6, h3⟩)
  obtain ⟨g₀, hfr⟩ := X'.frames_eq
  have hcell9 : ((T.setVm vm').setFrames (.throwing q :: below)).heap[q]? = some ce := by
    show T.heap[q]? = some ce
    rw [hT]; exact hcell
  have hend : Ended ((T.setVm vm').setFrames (.throwing q :: below)) below (.threw q) := State.frames_setFrames _ (State.cur_lt_of_frames hfr)
  refine ⟨(T.setVm vm').setFrames (.throwing q :: below), ?_, .threw q, X'.here.running, hend, Or.inr ⟨q, rfl, E, ce, locs, hx _ hT (X'.ends _).1.alike, hcell9, hv, hcl, (X'.ends _).1, (X'.ends _).2.mono hc hs, hf⟩⟩
  rw [X.pushThrowing_eq]
  exact st
/-- a thing of a world lies in the heap -/
theorem vx_lt {D : va_G} {cl : List vw_C} {ws : va_W} {H1 : Heap} (h : va_P D cl ws H1) {k : Nat} {q : Nat × va_E} (hk : ws[k]? = some q) : q.1 < H1.size := (h k q hk).lt
end VXS
/-! ===== END ===== -/
/-! ===== BEGIN methods with a table of their own: called by a name, returning or throwing ===== -/
section VXH
/-! vx_backW, vx_callVX, vx_callSX, vx_callVW, vx_runVW, vx_runVX, vx_runSX, vx_ofWH follow the same proofs as their sisters above (Free/Laws.lean, Shelf42/LK1.lean); vx_outP calls Shelf42/NT130.lean (outThrough). -/
section
variable {l : Launch} {R : Room} {p : Program} {e : Env} {below : List Frame} {s : State} {sargs : Array Value} {y : MethodName} {len W9 : Nat}
theorem vx_backW {ws : List Cond} {rm : Room} {Pc : Array Value → State → Prop} {Qc : Array Value → State → Outcome → State → Prop} {XC : String → State → State → Prop} {mc ms : Nat} {free : Addr → Prop} {bytes : ByteArray} {maxL : Nat} {ret : Option FieldType} {hh : List (Nat × Nat × Nat × Nat)}
    (hM : vx_Met l y ws rm Pc Qc XC mc ms free) (hblind : FrameBlind Pc) (hrc : rm.cells = mc) (hrs : rm.slots = ms)
    (hframes : rm.frames + 1 ≤ R.frames) (hlocals : W9 + (maxL + 11) + rm.locals ≤ R.locals)
    (hws : ∀ w ∈ ws, ∀ a' U, s.WarmedH U.vm → w.before a' U = true) (hcode : Cond.codeWith y bytes maxL ret hh ∈ ws) (hinit : ∀ a' U, s.WarmedH U.vm → (Cond.initialized y.cls).before a' U = true) :
    vx_Back l R p e below s sargs y len W9 (PreOf R mc ms Pc) (PostOf Qc mc ms free) (vx_Post XC mc ms free) := by
  intro m meth c A g ig mk a X hg hsize hdg hW hn hp
  have h1 : (headSpec ws rm).pre.before a A.U = true := atoms_intro fun w hw => hws w hw _ _ X.warmed
  have h2 : (Cond.codeWith y bytes maxL ret hh).before a A.U = true := hws _ hcode _ _ X.warmed
  have h3 : (Cond.initialized y.cls).before a A.U = true := hinit _ _ X.warmed
  have h4 : A.cells + (headSpec ws rm).room.cells ≤ R.cells := by rw [show (headSpec ws rm).room.cells = mc from hrc]; exact hp.1
  have h5 : A.slots + (headSpec ws rm).room.slots ≤ R.slots := by rw [show (headSpec ws rm).room.slots = ms from hrs]; exact hp.2.1
  have hPc : Pc a (A.U.calling g mk a) := hblind _ _ _ _ hp.2.2
  obtain ⟨U, Ls, c0, s0⟩ := A
  dsimp only [Pt.U, Pt.locs, Pt.cells, Pt.slots] at h1 h2 h3 h4 h5 X hn hPc ⊢
  obtain ⟨m9, methY, cY, hn9, hmY, hcY, -, hlY, -⟩ := Cond.codeWith_spec h2
  cases Option.some.inj (hn9.symm.trans hn)
  obtain ⟨kY, hkY, -⟩ := className_of_methodNamed hn
  have hinitY : kY.init = .initialized := Cond.initialized_spec (findClass_of_methodNamed hn) hkY h3
  have h : At U g.method c below := by rw [hg]; exact X.here
  have hlocals9 : W9 + (maxL + 11) + (headSpec ws rm).room.locals ≤ R.locals := hlocals
  have happ : (headSpec ws rm).appliesLoose y e.platform (U.calling g mk a) = true :=
    Spec.appliesLoose_calling (g := g) h hdg hn hkY hinitY
      (X.room_calling (g := g) (R' := (headSpec ws rm).room) hsize hmY hcY hframes (by rw [hlY]; omega) h4 h5) h1
  obtain ⟨mid, hmid⟩ := h.above
  have hfr : (U.setTop g).frames = (.java g :: mid) ++ below := by rw [State.frames_setTop' g h.top, hmid]; rfl
  obtain ⟨o, s₂, hsteps, -, hend, hq⟩ := Steps.callFree hM p X.admits X.cas X.clock (acts := []) hfr happ hPc trivial
  have hq' : vx_Q Qc XC mc ms free a (U.calling g mk a) o s₂ := hq
  rw [State.frames_setTop' g h.top] at hend
  obtain ⟨g₀, hg0⟩ := Option.isSome_iff_exists.mp h.top
  obtain ⟨r, hr⟩ := State.topJava?_eq_some.mp hg0
  have hr' : (({ U with heap := s₂.heap, slotsUsed := s₂.slotsUsed } : State).setVm s₂.vm).frames = .java g₀ :: r := hr
  rcases hq' with ⟨hqc, L, hfe, hL⟩ | ⟨q, rfl, E, ce, L, hx, hce, hcv, hcl, hW₂, hsm, hL⟩
  · obtain ⟨⟨v, rfl⟩, hW₂, e2, q2, q3, q4, q5, q6⟩ := id hfe
    have e3 : s₂ = ({ (U.calling g mk a).setFrames s₂.frames with heap := s₂.heap, slotsUsed := s₂.slotsUsed } : State).setVm s₂.vm := by
      have : s₂ = ({ s₂ with vm := (U.calling g mk a).vm } : State).setVm s₂.vm := rfl
      rw [e2] at this
      exact this
    obtain ⟨c₂, i₂, len₂, hc₂, hd₂, hf₂⟩ := hend
    have hW' : U.WarmedH s₂.vm := hW₂
    have hcc : c₂ = c := by
      have h1 : s₂.code? g.method = U.code? g.method := by
        rw [State.code?_eq, State.code?_eq, hW'.alike.method?]
      exact Option.some.inj (hc₂.symm.trans (h1.trans h.code))
    subst hcc
    have hlen : len₂ = len := by rw [hdg] at hd₂; cases hd₂; rfl
    subst hlen
    have hs₂ : s₂ = (({ U with heap := s₂.heap, slotsUsed := s₂.slotsUsed } : State).setVm s₂.vm).setTop { g with pc := g.pc + len₂, stack := v.toList ++ g.stack } := by
      refine e3.trans ?_
      rw [hf₂, State.calling_eq h.top, State.setFrames_setFrames, State.setTop_of_frames _ hr', hr]
      rfl
    have hsame : U.sameButNew ({ U with heap := s₂.heap, slotsUsed := s₂.slotsUsed } : State) L mc ms := by
      refine ⟨?_, q2, q3, q4, q5, q6⟩
      obtain ⟨t, ht, -⟩ := State.frames_cons hr
      show ({ U with heap := s₂.heap, slotsUsed := s₂.slotsUsed } : State) = { U.setFrames U.frames with heap := s₂.heap, slotsUsed := s₂.slotsUsed }
      rw [State.setFrames_self ht]
    subst hg
    refine Or.inl ⟨v, ⟨(({ U with heap := s₂.heap, slotsUsed := s₂.slotsUsed } : State).setVm s₂.vm), Ls ++ L, c0 + mc, s0 + ms⟩,
      ⟨X.admits, X.cas, X.clock, X.frames, X.room, X.hears, X.method, X.code, (X.here.setHeapUsed s₂.heap s₂.slotsUsed).setVm hW'.alike, X.tail, State.WarmedH.trans X.warmed hW', X.limits, X.bytes, X.same.trans (hsame.setVm s.vm)⟩,
      ⟨g, mk, s₂, L, rfl, rfl, hqc, rfl, hL, rfl, rfl⟩, ?_⟩
    show Steps p.tables e below _ ((({ U with heap := s₂.heap, slotsUsed := s₂.slotsUsed } : State).setVm s₂.vm).setTop { g with pc := g.pc + len₂, stack := v.toList ++ g.stack })
    rw [← hs₂]
    exact hsteps
  · obtain ⟨e2, q2, q3, q4, q5, q6⟩ := id hsm
    have e3 : s₂ = ({ (U.calling g mk a).setFrames s₂.frames with heap := s₂.heap, slotsUsed := s₂.slotsUsed } : State).setVm s₂.vm := by
      have : s₂ = ({ s₂ with vm := (U.calling g mk a).vm } : State).setVm s₂.vm := rfl
      rw [e2] at this
      exact this
    have hf₂ : s₂.frames = .throwing q :: .java g :: U.frames.tail := hend
    have hW' : U.WarmedH s₂.vm := hW₂
    have hs₂ : s₂ = ((({ U with heap := s₂.heap, slotsUsed := s₂.slotsUsed } : State).setVm s₂.vm).setTop g).pushFrame (.throwing q) := by
      refine e3.trans ?_
      rw [hf₂, State.calling_eq h.top, State.setFrames_setFrames, State.pushFrame, State.frames_setTop _ hr', State.setTop_of_frames _ hr', State.setFrames_setFrames, hr]
      rfl
    have hsame : U.sameButNew ({ U with heap := s₂.heap, slotsUsed := s₂.slotsUsed } : State) L mc ms := by
      refine ⟨?_, q2, q3, q4, q5, q6⟩
      obtain ⟨t, ht, -⟩ := State.frames_cons hr
      show ({ U with heap := s₂.heap, slotsUsed := s₂.slotsUsed } : State) = { U.setFrames U.frames with heap := s₂.heap, slotsUsed := s₂.slotsUsed }
      rw [State.setFrames_self ht]
    subst hg
    refine Or.inr ⟨q, ⟨(({ U with heap := s₂.heap, slotsUsed := s₂.slotsUsed } : State).setVm s₂.vm), Ls ++ L, c0 + mc, s0 + ms⟩,
      ⟨X.admits, X.cas, X.clock, X.frames, X.room, X.hears, X.method, X.code, (X.here.setHeapUsed s₂.heap s₂.slotsUsed).setVm hW'.alike, X.tail, State.WarmedH.trans X.warmed hW', X.limits, X.bytes, X.same.trans (hsame.setVm s.vm)⟩,
      ⟨g, mk, s₂, L, E, ce, rfl, rfl, hx, hce, hcv, hcl, rfl, hL, rfl, rfl⟩, ?_⟩
    show Steps p.tables e below _ (((({ U with heap := s₂.heap, slotsUsed := s₂.slotsUsed } : State).setVm s₂.vm).setTop g).pushFrame (.throwing q))
    rw [← hs₂]
    exact hsteps
end
variable {p : Program} {l : Launch} {e : Env} {R : Room} {s : State} {m : MethodId} {args : Array Value} {below : List Frame} {meth : Method} {c : Code} {T : State} {H : Heap} {locs : List Loc} {cells slots : Nat}
theorem vx_callVX (X : Stand p l e R s m args below meth c T locs cells slots) (hexec : p.tables.exec = Jvm.exec) {own C : String} {index : Nat} {y : MethodName} {bytes : ByteArray} {maxL : Nat} {ret : Option FieldType} {hh : List (Nat × Nat × Nat × Nat)}
    (hown : s.vm.findClass own = some m.cls) (hlink : (Cond.methodLink own index y).before args s = true) (hinst : (Cond.instanceMethod y).before args s = true) (hsel : (Cond.selects C y y).before args s = true)
    (hcode : (Cond.codeWith y bytes maxL ret hh).before args s = true) (hy : y.cls ≠ "java/lang/invoke/MethodHandle" ∧ y.cls ≠ "java/lang/invoke/VarHandle")
    {W9 : Nat} {Pre : Pt → Array Value → Prop} {Post : Pt → Array Value → Option Value → Pt → Prop} {PostX : Pt → Array Value → Addr → Pt → Prop} (hK : vx_Back l R p e below s args y 3 W9 Pre Post PostX)
    {b : Addr} {cellB : Cell} (hcell : T.heap[b]? = some cellB) (hobj : cellB.vm.isStatics = false) (hcls : s.vm.findClass C = some cellB.cls)
    {g : JFrame} (hg : g.method = m) (hsize : g.locals.size = c.maxLocals) {argsL rest : List Value} (hlen : ∀ sig, parseMethodDescriptor y.desc = some sig → argsL.length = sig.parameters.length)
    (hstack : g.stack = argsL.reverse ++ .ref b :: rest) (hW : 2 * g.monitorRoom + (rest.map fun v => v.category).sum ≤ W9) (hdg : decode c.code g.pc = .ok (.invokevirtual index, 3))
    (hpre : ∀ vm₁, s.WarmedH vm₁ → Pre ⟨T.setVm vm₁, locs, cells, slots⟩ (Value.ref b :: argsL).toArray) :
    (∃ (v : Option Value) (vm₁ : Vm) (B : Pt), s.WarmedH vm₁ ∧ Stand p l e R s m args below meth c B.U B.locs B.cells B.slots ∧ Post ⟨T.setVm vm₁, locs, cells, slots⟩ (Value.ref b :: argsL).toArray v B ∧
      ∀ target, Steps p.tables e below (B.U.setTop { g with pc := g.pc + 3, stack := v.toList ++ rest }) target → Steps p.tables e below (T.setTop g) target) ∨
    (∃ (q : Addr) (vm₁ : Vm) (B : Pt), s.WarmedH vm₁ ∧ Stand p l e R s m args below meth c B.U B.locs B.cells B.slots ∧ PostX ⟨T.setVm vm₁, locs, cells, slots⟩ (Value.ref b :: argsL).toArray q B ∧
      Steps p.tables e below (T.setTop g) ((B.U.setTop { g with stack := rest }).pushFrame (.throwing q))) := by
  obtain ⟨mk, methM, hnamed, hmethM, hstM, habM⟩ := Cond.instanceMethod_spec hinst
  obtain ⟨m8, methM', cM, hn8, hmethM', -, -, -, -, -, -, hsigM⟩ := Cond.codeWith_spec hcode
  cases Option.some.inj (hn8.symm.trans hnamed)
  cases hmethM.symm.trans hmethM'
  obtain ⟨c2, r2, m2, q1, q2, q3, q4, kP, hkP, hkPi⟩ := Cond.selects_spec hsel
  cases hcls.symm.trans q1
  cases (State.methodFound?_of_named hnamed hy).symm.trans q2
  cases hnamed.symm.trans q3
  have hselP : selectMethod e.platform s.vm cellB.cls mk = .method mk := by rw [Launch.admits_selectMethod X.admits]; exact q4
  obtain ⟨vm₁, X₁, hstep₁⟩ := X.invokevirtual hexec hown hlink hnamed hmethM hstM hkP hkPi hy (a := b) (cell := cellB) hcell
    (fun z h => by rw [h] at hobj; cases hobj) hselP hmethM habM hkP hkPi (g := g) hg (argsL := argsL) (rest := rest) (hlen _ hsigM) hstack hdg
  rcases hK m meth c ⟨T.setVm vm₁, locs, cells, slots⟩ { g with stack := rest } (.invokevirtual index) mk (Value.ref b :: argsL).toArray X₁ hg hsize hdg hW (X₁.named hnamed) (hpre vm₁ X₁.warmed) with ⟨v, B, X', hpost, hsteps⟩ | ⟨q, B, X', hpost, hsteps⟩
  · exact Or.inl ⟨v, vm₁, B, X₁.warmed, X', hpost, fun target h => hstep₁ _ fun acts => by rw [doInvoke_state]; exact hsteps.trans h⟩
  · exact Or.inr ⟨q, vm₁, B, X₁.warmed, X', hpost, hstep₁ _ fun acts => by rw [doInvoke_state]; exact hsteps⟩
theorem vx_callSX (X : Stand p l e R s m args below meth c T locs cells slots) (hexec : p.tables.exec = Jvm.exec) {own : String} {index : Nat} {y : MethodName} {bytes : ByteArray} {maxL : Nat} {ret : Option FieldType} {hh : List (Nat × Nat × Nat × Nat)}
    (hown : s.vm.findClass own = some m.cls) (hlink : (Cond.methodLink own index y).before args s = true) (hstat : (Cond.static y).before args s = true) (hinit : (Cond.initialized y.cls).before args s = true)
    (hcode : (Cond.codeWith y bytes maxL ret hh).before args s = true) (hy : y.cls ≠ "java/lang/invoke/MethodHandle" ∧ y.cls ≠ "java/lang/invoke/VarHandle")
    {W9 : Nat} {Pre : Pt → Array Value → Prop} {Post : Pt → Array Value → Option Value → Pt → Prop} {PostX : Pt → Array Value → Addr → Pt → Prop} (hK : vx_Back l R p e below s args y 3 W9 Pre Post PostX)
    {g : JFrame} (hg : g.method = m) (hsize : g.locals.size = c.maxLocals) {argsL rest : List Value} (hlen : ∀ sig, parseMethodDescriptor y.desc = some sig → argsL.length = sig.parameters.length)
    (hstack : g.stack = argsL.reverse ++ rest) (hW : 2 * g.monitorRoom + (rest.map fun v => v.category).sum ≤ W9) (hdg : decode c.code g.pc = .ok (.invokestatic index, 3))
    (hpre : ∀ vm₁, s.WarmedH vm₁ → Pre ⟨T.setVm vm₁, locs, cells, slots⟩ argsL.toArray) :
    (∃ (v : Option Value) (vm₁ : Vm) (B : Pt), s.WarmedH vm₁ ∧ Stand p l e R s m args below meth c B.U B.locs B.cells B.slots ∧ Post ⟨T.setVm vm₁, locs, cells, slots⟩ argsL.toArray v B ∧
      ∀ target, Steps p.tables e below (B.U.setTop { g with pc := g.pc + 3, stack := v.toList ++ rest }) target → Steps p.tables e below (T.setTop g) target) ∨
    (∃ (q : Addr) (vm₁ : Vm) (B : Pt), s.WarmedH vm₁ ∧ Stand p l e R s m args below meth c B.U B.locs B.cells B.slots ∧ PostX ⟨T.setVm vm₁, locs, cells, slots⟩ argsL.toArray q B ∧
      Steps p.tables e below (T.setTop g) ((B.U.setTop { g with stack := rest }).pushFrame (.throwing q))) := by
  obtain ⟨mk, methM, cM, hnamed, hmethM, -, -, -, -, -, -, hsigM⟩ := Cond.codeWith_spec hcode
  have hstatic : methM.isStatic = true := Cond.static_spec hnamed hmethM hstat
  obtain ⟨kP, hkP, -⟩ := className_of_methodNamed hnamed
  have hinitP : kP.init = .initialized := Cond.initialized_spec (findClass_of_methodNamed hnamed) hkP hinit
  obtain ⟨vm₁, X₁, hstep₁⟩ := X.invokestatic hexec hown hlink hnamed hmethM hstatic hkP hinitP hy (g := g) hg (argsL := argsL) (rest := rest) (hlen _ hsigM) hstack hdg
  rcases hK m meth c ⟨T.setVm vm₁, locs, cells, slots⟩ { g with stack := rest } (.invokestatic index) mk argsL.toArray X₁ hg hsize hdg hW (X₁.named hnamed) (hpre vm₁ X₁.warmed) with ⟨v, B, X', hpost, hsteps⟩ | ⟨q, B, X', hpost, hsteps⟩
  · exact Or.inl ⟨v, vm₁, B, X₁.warmed, X', hpost, fun target h => hstep₁ _ fun acts => by rw [doInvoke_state]; exact hsteps.trans h⟩
  · exact Or.inr ⟨q, vm₁, B, X₁.warmed, X', hpost, hstep₁ _ fun acts => by rw [doInvoke_state]; exact hsteps⟩
theorem vx_callVW (X : Stand p l e R s m args below meth c T locs cells slots) (hexec : p.tables.exec = Jvm.exec) {own C : String} {index : Nat} {y : MethodName} {bytes : ByteArray} {maxL : Nat} {ret : Option FieldType} {hh : List (Nat × Nat × Nat × Nat)}
    (hown : s.vm.findClass own = some m.cls) (hlink : (Cond.methodLink own index y).before args s = true) (hinst : (Cond.instanceMethod y).before args s = true) (hsel : (Cond.selects C y y).before args s = true)
    (hcode : (Cond.codeWith y bytes maxL ret hh).before args s = true) (hy : y.cls ≠ "java/lang/invoke/MethodHandle" ∧ y.cls ≠ "java/lang/invoke/VarHandle")
    {W9 : Nat} {Pre : Pt → Array Value → Prop} {Post : Pt → Array Value → Option Value → Pt → Prop} (hK : Back l R p e below s args y 3 W9 Pre Post)
    {b : Addr} {cellB : Cell} (hcell : T.heap[b]? = some cellB) (hobj : cellB.vm.isStatics = false) (hcls : s.vm.findClass C = some cellB.cls)
    {g : JFrame} (hg : g.method = m) (hsize : g.locals.size = c.maxLocals) {argsL rest : List Value} (hlen : ∀ sig, parseMethodDescriptor y.desc = some sig → argsL.length = sig.parameters.length)
    (hstack : g.stack = argsL.reverse ++ .ref b :: rest) (hW : 2 * g.monitorRoom + (rest.map fun v => v.category).sum ≤ W9) (hdg : decode c.code g.pc = .ok (.invokevirtual index, 3))
    (hpre : ∀ vm₁, s.WarmedH vm₁ → Pre ⟨T.setVm vm₁, locs, cells, slots⟩ (Value.ref b :: argsL).toArray) :
    ∃ (v : Option Value) (vm₁ : Vm) (B : Pt), s.WarmedH vm₁ ∧ Stand p l e R s m args below meth c B.U B.locs B.cells B.slots ∧ Post ⟨T.setVm vm₁, locs, cells, slots⟩ (Value.ref b :: argsL).toArray v B ∧
      ∀ target, Steps p.tables e below (B.U.setTop { g with pc := g.pc + 3, stack := v.toList ++ rest }) target → Steps p.tables e below (T.setTop g) target := by
  obtain ⟨mk, methM, hnamed, hmethM, hstM, habM⟩ := Cond.instanceMethod_spec hinst
  obtain ⟨m8, methM', cM, hn8, hmethM', -, -, -, -, -, -, hsigM⟩ := Cond.codeWith_spec hcode
  cases Option.some.inj (hn8.symm.trans hnamed)
  cases hmethM.symm.trans hmethM'
  obtain ⟨c2, r2, m2, q1, q2, q3, q4, kP, hkP, hkPi⟩ := Cond.selects_spec hsel
  cases hcls.symm.trans q1
  cases (State.methodFound?_of_named hnamed hy).symm.trans q2
  cases hnamed.symm.trans q3
  have hselP : selectMethod e.platform s.vm cellB.cls mk = .method mk := by rw [Launch.admits_selectMethod X.admits]; exact q4
  obtain ⟨vm₁, X₁, hstep₁⟩ := X.invokevirtual hexec hown hlink hnamed hmethM hstM hkP hkPi hy (a := b) (cell := cellB) hcell
    (fun z h => by rw [h] at hobj; cases hobj) hselP hmethM habM hkP hkPi (g := g) hg (argsL := argsL) (rest := rest) (hlen _ hsigM) hstack hdg
  obtain ⟨v, B, X', hpost, hsteps⟩ := hK m meth c ⟨T.setVm vm₁, locs, cells, slots⟩ { g with stack := rest } (.invokevirtual index) mk (Value.ref b :: argsL).toArray X₁ hg hsize hdg hW (X₁.named hnamed) (hpre vm₁ X₁.warmed)
  exact ⟨v, vm₁, B, X₁.warmed, X', hpost, fun target h => hstep₁ _ fun acts => by rw [doInvoke_state]; exact hsteps.trans h⟩
abbrev vx_CVW (R : Room) (s : State) (args : Array Value) (own C : String) (index : Nat) (y : MethodName) (bytes : ByteArray) (maxL : Nat) (ret : Option FieldType) (hh : List (Nat × Nat × Nat × Nat)) (ws : List Cond) (rm : Room) (mc ms n : Nat) : Prop :=
  (rm.cells = mc ∧ rm.slots = ms ∧ rm.frames + 1 ≤ R.frames ∧ 8 + (maxL + 11) + rm.locals ≤ R.locals ∧ (∀ w ∈ ws, ∀ (a' : Array Value) (U : State), s.WarmedH U.vm → w.before a' U = true) ∧ Cond.codeWith y bytes maxL ret hh ∈ ws) ∧
  (Cond.codeWith y bytes maxL ret hh).before args s = true ∧ (Cond.initialized y.cls).before args s = true ∧ (y.cls ≠ "java/lang/invoke/MethodHandle" ∧ y.cls ≠ "java/lang/invoke/VarHandle") ∧
  (∀ sig, parseMethodDescriptor y.desc = some sig → n = sig.parameters.length) ∧ (Cond.methodLink own index y).before args s = true ∧ (Cond.instanceMethod y).before args s = true ∧ (Cond.selects C y y).before args s = true
theorem vx_cwVW {own C : String} {index maxL mc ms : Nat} {y : MethodName} {bytes : ByteArray} {ret : Option FieldType} {hh : List (Nat × Nat × Nat × Nat)} {Ts ws ws' : List Cond} {rm : Room} (n : Nat) (ht : ∀ w ∈ Ts, w.before args s = true) (hT : GoodIn Ts (wsV own index C y ws)) (hw : ws = Cond.codeWith y bytes maxL ret hh :: ws') (hrc : rm.cells = mc) (hrs : rm.slots = ms)
    (hd : y.cls = C ∧ y.cls ≠ "java/lang/invoke/MethodHandle" ∧ y.cls ≠ "java/lang/invoke/VarHandle" ∧ (parseMethodDescriptor y.desc).map (fun d => d.parameters.length) = some n) (hR : rm.frames + 1 ≤ R.frames ∧ 8 + (maxL + 11) + rm.locals ≤ R.locals) :
    vx_CVW R s args own C index y bytes maxL ret hh ws rm mc ms n := by
  obtain ⟨hC, hd⟩ := hd
  subst hC
  have ok : ∀ w ∈ wsV own index y.cls y ws, w.before args s = true := fun w h => ht w (hT w h).1
  have hG : GoodIn Ts ws := fun w h => hT w (by unfold wsV; exact List.mem_append_right _ h)
  have hc : Cond.codeWith y bytes maxL ret hh ∈ ws := by rw [hw]; exact List.mem_cons_self
  refine ⟨⟨hrc, hrs, hR.1, hR.2, pay_in ht hG, hc⟩, ht _ (hG _ hc).1, ok _ (by simp [wsV]), ⟨hd.1, hd.2.1⟩, fun sig h => ?_, ok _ (by simp [wsV]), ok _ (by simp [wsV]), ok _ (by simp [wsV])⟩
  have h2 := hd.2.2
  rw [h] at h2
  exact (Option.some.inj h2).symm
theorem vx_runVW {y : MethodName} {bytes cc : ByteArray} {maxL nL mc ms n index : Nat} {ret : Option FieldType} {hh : List (Nat × Nat × Nat × Nat)} {ws : List Cond} {rm : Room} {Pc : Array Value → State → Prop} {Qc : Array Value → State → Outcome → State → Prop} {free : Addr → Prop} {Ts : List Cond} {own C : String} {b : Addr} {As rest : List Value} {g : JFrame}
    (S : CallFix p m c cc nL s args Ts own) (hM : Met l y ws rm Pc Qc mc ms free) (cw : vx_CVW R s args own C index y bytes maxL ret hh ws rm mc ms n) (hp : PreV s H C b Pc As)
    (hg : g.method = m) (hn : As.length = n) (hsize : g.locals.size = nL) (hstack : g.stack = As.reverse ++ .ref b :: rest) (hW : 2 * g.monitorRoom + (rest.map fun v => v.category).sum ≤ 8) (hdg : decode cc g.pc = .ok (.invokevirtual index, 3)) (hf : cells + mc ≤ R.cells ∧ slots + ms ≤ R.slots) :
    va_Run p l e R s m args below meth c H locs cells slots mc ms g rest (Qc (Value.ref b :: As).toArray) free := by
  obtain ⟨⟨hrc, hrs, hfr, hlo, hws, hcw⟩, hcode, hini, hy, hlen, hl, hin, hse⟩ := cw
  have hK : Back l R p e below s args y 3 8 (PreOf R mc ms Pc) (PostOf Qc mc ms free) := va_backW (hh := hh) (bytes := bytes) (maxL := maxL) (ret := ret) hM hp.1 hrc hrs hfr hlo hws hcw (fun a' U hW => word_at hW (Or.inl (by first | rfl | simp [Cond.onTables, Cond.keeps, Cond.steady])) hini)
  obtain ⟨hx, hb, hml, ho, -⟩ := S
  obtain ⟨-, ⟨cellB, hcB, hoB, hclB⟩, hPc⟩ := hp
  intro T hT X
  obtain ⟨v, vm₁, ⟨U', l2, c2, s2⟩, hW₁, X', ⟨g', mk, t, L, e1, e2, hq, h1, hL, h2, h3⟩, st⟩ := vx_callVW X hx (C := C) (hh := hh) (bytes := bytes) (maxL := maxL) (ret := ret) ho hl hin hse hcode hy hK (by rw [hT]; exact hcB) hoB hclB hg (hsize.trans hml.symm) (argsL := As) (rest := rest) (fun sig h => hn.trans (hlen sig h)) hstack hW (by rw [hb]; exact hdg)
    (fun vm₁ hW₁ => ⟨hf.1, hf.2, hPc (T.setVm vm₁) hT hW₁⟩)
  dsimp only [Pt.U, Pt.locs, Pt.cells, Pt.slots] at X' e1 e2 h1 h2 h3 st
  subst h1; subst h2; subst h3
  exact ⟨v, (T.setVm vm₁).calling g' mk (Value.ref b :: As).toArray, t, U', L, hT, X', hL, e1, e2, hq, st⟩
section
variable {y : MethodName} {bytes cc : ByteArray} {maxL nL mc ms n index : Nat} {ret : Option FieldType} {ws : List Cond} {rm : Room} {Pc : Array Value → State → Prop} {Qc : Array Value → State → Outcome → State → Prop} {XC : String → State → State → Prop} {free : Addr → Prop} {Ts : List Cond} {own C : String} {b : Addr} {As rest : List Value} {g : JFrame}
theorem vx_runVX {hh : List (Nat × Nat × Nat × Nat)} (S : CallFix p m c cc nL s args Ts own) (hM : vx_Met l y ws rm Pc Qc XC mc ms free) (cw : vx_CVW R s args own C index y bytes maxL ret hh ws rm mc ms n) (hp : PreV s H C b Pc As)
    (hg : g.method = m) (hn : As.length = n) (hsize : g.locals.size = nL) (hstack : g.stack = As.reverse ++ .ref b :: rest) (hW : 2 * g.monitorRoom + (rest.map fun v => v.category).sum ≤ 8) (hdg : decode cc g.pc = .ok (.invokevirtual index, 3)) (hf : cells + mc ≤ R.cells ∧ slots + ms ≤ R.slots) :
    vx_Run p l e R s m args below meth c H locs cells slots mc ms g rest (Qc (Value.ref b :: As).toArray) XC free := by
  obtain ⟨⟨hrc, hrs, hfr, hlo, hws, hcw⟩, hcode, hini, hy, hlen, hl, hin, hse⟩ := cw
  have hK : vx_Back l R p e below s args y 3 8 (PreOf R mc ms Pc) (PostOf Qc mc ms free) (vx_Post XC mc ms free) := vx_backW (hh := hh) (bytes := bytes) (maxL := maxL) (ret := ret) hM hp.1 hrc hrs hfr hlo hws hcw (fun a' U hW => word_at hW (Or.inl (by first | rfl | simp [Cond.onTables, Cond.keeps, Cond.steady])) hini)
  obtain ⟨hx, hb, hml, ho, -⟩ := S
  obtain ⟨-, ⟨cellB, hcB, hoB, hclB⟩, hPc⟩ := hp
  intro T hT X
  rcases vx_callVX X hx (C := C) (hh := hh) (bytes := bytes) (maxL := maxL) (ret := ret) ho hl hin hse hcode hy hK (by rw [hT]; exact hcB) hoB hclB hg (hsize.trans hml.symm) (argsL := As) (rest := rest) (fun sig h => hn.trans (hlen sig h)) hstack hW (by rw [hb]; exact hdg)
    (fun vm₁ hW₁ => ⟨hf.1, hf.2, hPc (T.setVm vm₁) hT hW₁⟩) with ⟨v, vm₁, ⟨U', l2, c2, s2⟩, hW₁, X', ⟨g', mk, t, L, e1, e2, hq, h1, hL, h2, h3⟩, st⟩ | ⟨q, vm₁, ⟨U', l2, c2, s2⟩, hW₁, X', ⟨g', mk, t, L, E, ce, e1, e2, hq, hce, hcv, hcl, h1, hL, h2, h3⟩, st⟩
  · dsimp only [Pt.U, Pt.locs, Pt.cells, Pt.slots] at X' e1 e2 h1 h2 h3 st
    subst h1; subst h2; subst h3
    exact Or.inl ⟨v, (T.setVm vm₁).calling g' mk (Value.ref b :: As).toArray, t, U', L, hT, X', hL, e1, e2, hq, st⟩
  · dsimp only [Pt.U, Pt.locs, Pt.cells, Pt.slots] at X' e1 e2 h1 h2 h3 st hcl
    subst h1; subst h2; subst h3
    exact Or.inr ⟨q, (T.setVm vm₁).calling g' mk (Value.ref b :: As).toArray, t, U', L, E, ce, hT, X', hL, e1, e2, hq, hce, hcv, vx_cls hW₁ hcl, st⟩
theorem vx_runSX {hh : List (Nat × Nat × Nat × Nat)} (S : CallFix p m c cc nL s args Ts own) (hM : vx_Met l y ws rm Pc Qc XC mc ms free) (cw : vx_CSW R s args own index y bytes maxL ret hh ws rm mc ms n) (hp : PreS s H Pc As)
    (hg : g.method = m) (hn : As.length = n) (hsize : g.locals.size = nL) (hstack : g.stack = As.reverse ++ rest) (hW : 2 * g.monitorRoom + (rest.map fun v => v.category).sum ≤ 8) (hdg : decode cc g.pc = .ok (.invokestatic index, 3)) (hf : cells + mc ≤ R.cells ∧ slots + ms ≤ R.slots) :
    vx_Run p l e R s m args below meth c H locs cells slots mc ms g rest (Qc As.toArray) XC free := by
  obtain ⟨⟨hrc, hrs, hfr, hlo, hws, hcw⟩, hcode, hini, hy, hlen, hl, hstt⟩ := cw
  have hK : vx_Back l R p e below s args y 3 8 (PreOf R mc ms Pc) (PostOf Qc mc ms free) (vx_Post XC mc ms free) := vx_backW (hh := hh) (bytes := bytes) (maxL := maxL) (ret := ret) hM hp.1 hrc hrs hfr hlo hws hcw (fun a' U hW => word_at hW (Or.inl (by first | rfl | simp [Cond.onTables, Cond.keeps, Cond.steady])) hini)
  obtain ⟨hx, hb, hml, ho, -⟩ := S
  intro T hT X
  rcases vx_callSX X hx (hh := hh) (bytes := bytes) (maxL := maxL) (ret := ret) ho hl hstt hini hcode hy hK hg (hsize.trans hml.symm) (argsL := As) (rest := rest) (fun sig h => hn.trans (hlen sig h)) hstack hW (by rw [hb]; exact hdg)
    (fun vm₁ hW₁ => ⟨hf.1, hf.2, hp.2 (T.setVm vm₁) hT hW₁⟩) with ⟨v, vm₁, ⟨U', l2, c2, s2⟩, hW₁, X', ⟨g', mk, t, L, e1, e2, hq, h1, hL, h2, h3⟩, st⟩ | ⟨q, vm₁, ⟨U', l2, c2, s2⟩, hW₁, X', ⟨g', mk, t, L, E, ce, e1, e2, hq, hce, hcv, hcl, h1, hL, h2, h3⟩, st⟩
  · dsimp only [Pt.U, Pt.locs, Pt.cells, Pt.slots] at X' e1 e2 h1 h2 h3 st
    subst h1; subst h2; subst h3
    exact Or.inl ⟨v, (T.setVm vm₁).calling g' mk As.toArray, t, U', L, hT, X', hL, e1, e2, hq, st⟩
  · dsimp only [Pt.U, Pt.locs, Pt.cells, Pt.slots] at X' e1 e2 h1 h2 h3 st hcl
    subst h1; subst h2; subst h3
    exact Or.inr ⟨q, (T.setVm vm₁).calling g' mk As.toArray, t, U', L, E, ce, hT, X', hL, e1, e2, hq, hce, hcv, vx_cls hW₁ hcl, st⟩
end
end VXH
theorem vx_ofWH {l : Launch} {y : MethodName} {ws ws' : List Cond} {rm : Room} {Pc : Array Value → State → Prop} {Qc : Array Value → State → Outcome → State → Prop} {XC : String → State → State → Prop} {mc ms : Nat} {free : Addr → Prop} {cc : ByteArray} {maxL : Nat} {ret : Option FieldType} {hh : List (Nat × Nat × Nat × Nat)}
    (hy : plainName y.cls = true) (hw : ws = Cond.codeWith y cc maxL ret hh :: ws')
    (body : ∀ p e s m args below meth c s₁, BodyLoose p l y (headSpec ws rm) cc maxL ret e s m args below meth c s₁ → c.maxLocals = maxL → Pc args s →
      W p l e (headSpec ws rm).room s m args below meth c s.heap [] 0 0 (vx_MQ below Qc XC args s mc ms free) (entryFrame m args maxL)) : vx_Met l y ws rm Pc Qc XC mc ms free := by
  refine MetFree.of_bodyS (code := cc) (maxLocals := maxL) (ret := ret) hy ?_ ?_
  · intro args s m h hn
    obtain ⟨m9, meth, c, hn9, h1, h2, h3, h4, -, h5, h6, -⟩ := Cond.codeWith_spec (atoms_spec (ws := ws) h _ (by rw [hw]; exact List.mem_cons_self))
    cases hn.symm.trans hn9
    exact ⟨meth, c, h1, h2, h3, h4, h5, h6⟩
  · intro p e s m args below meth c s₁ B hml hP _
    have hh0 : s₁.heap = s.heap := by rw [B.state]; rfl
    obtain ⟨t, a1, o, b1, b2, b3⟩ := body p e s m args below meth c s₁ B hml hP s₁ hh0 (Stand.of_body B)
    exact ⟨t, o, a1, b1, b2, b3⟩
/-! ===== END ===== -/
end
section
def RX0 : String := "HopCredits$Flow"
def TX0 : u_T := fun k => match k with
  | 0 => ("HopCredits$Flow", "gap", "I", false)
  | 1 => ("HopCredits$Flow", "start", "I", false)
  | 2 => ("HopCredits$Flow", "takes", "I", false)
  | 3 => ("HopCredits$Flow", "came", "I", false)
  | 4 => ("HopCredits$Flow", "spilt", "I", false)
  | 5 => ("HopCredits$Flow", "delivered", "I", false)
  | 6 => ("HopCredits$Flow", "cameNow", "Z", false)
  | _ => ("HopCredits$Flow", "deliveredNow", "Z", false)
def tyX0 : Nat → FieldType := fun k => match k with
  | 0 => .int
  | 1 => .int
  | 2 => .int
  | 3 => .int
  | 4 => .int
  | 5 => .int
  | 6 => .boolean
  | _ => .boolean
abbrev wsX00 : List Cond := u_ws RX0 TX0 8
theorem nmX0 : ∀ a, a < 8 → ∀ b, b < 8 → a ≠ b → (TX0 a).2.1 ≠ (TX0 b).2.1 := by decide +kernel
theorem tyX0_ok : ∀ k, k < 8 → parseFieldDescriptor (TX0 k).2.2.1 = some (tyX0 k) := by decide +kernel
abbrev cX0_init : ByteArray := prog_2_method_1_code
def yX0_init : MethodName := ⟨RX0, "<init>", "()V"⟩
abbrev cX0_lay : ByteArray := prog_2_method_2_code
def yX0_lay : MethodName := ⟨RX0, "lay", "(III)V"⟩
abbrev cX0_copy : ByteArray := prog_2_method_3_code
def yX0_copy : MethodName := ⟨RX0, "copy", "(LHopCredits$Flow;)V"⟩
abbrev cX0_comesIn : ByteArray := prog_2_method_4_code
def yX0_comesIn : MethodName := ⟨RX0, "comesIn", "(I)Z"⟩
abbrev cX0_takesIn : ByteArray := prog_2_method_5_code
def yX0_takesIn : MethodName := ⟨RX0, "takesIn", "(I)Z"⟩
def RX1 : String := "HopCredits$Lane"
def TX1 : u_T := fun k => match k with
  | 0 => ("HopCredits$Lane", "sent", "I", false)
  | 1 => ("HopCredits$Lane", "gone", "I", false)
  | 2 => ("HopCredits$Lane", "known", "I", false)
  | 3 => ("HopCredits$Lane", "zone", "I", false)
  | 4 => ("HopCredits$Lane", "waited", "I", false)
  | 5 => ("HopCredits$Lane", "sinceUpdate", "I", false)
  | _ => ("HopCredits$Lane", "sinceAdapt", "I", false)
def tyX1 : Nat → FieldType := fun k => match k with
  | 0 => .int
  | 1 => .int
  | 2 => .int
  | 3 => .int
  | 4 => .int
  | 5 => .int
  | _ => .int
abbrev wsX10 : List Cond := u_ws RX1 TX1 7
theorem nmX1 : ∀ a, a < 7 → ∀ b, b < 7 → a ≠ b → (TX1 a).2.1 ≠ (TX1 b).2.1 := by decide +kernel
theorem tyX1_ok : ∀ k, k < 7 → parseFieldDescriptor (TX1 k).2.2.1 = some (tyX1 k) := by decide +kernel
abbrev cX1_init : ByteArray := prog_3_method_1_code
def yX1_init : MethodName := ⟨RX1, "<init>", "()V"⟩
abbrev cX1_lay : ByteArray := prog_3_method_2_code
def yX1_lay : MethodName := ⟨RX1, "lay", "(I)V"⟩
abbrev cX1_copy : ByteArray := prog_3_method_3_code
def yX1_copy : MethodName := ⟨RX1, "copy", "(LHopCredits$Lane;)V"⟩
abbrev cX1_out : ByteArray := prog_3_method_4_code
def yX1_out : MethodName := ⟨RX1, "out", "()I"⟩
abbrev cX1_credit : ByteArray := prog_3_method_5_code
def yX1_credit : MethodName := ⟨RX1, "credit", "()I"⟩
abbrev cX1_hear : ByteArray := prog_3_method_6_code
def yX1_hear : MethodName := ⟨RX1, "hear", "(I)V"⟩
def RX2 : String := "HopCredits$Link"
def TX2 : u_T := fun k => match k with
  | 0 => ("HopCredits$Link", "delay", "I", false)
  | 1 => ("HopCredits$Link", "pool", "I", false)
  | 2 => ("HopCredits$Link", "every", "I", false)
  | 3 => ("HopCredits$Link", "jammed", "I", false)
  | 4 => ("HopCredits$Link", "latest", "I", false)
  | 5 => ("HopCredits$Link", "sender", "I", false)
  | 6 => ("HopCredits$Link", "cellAt", "[I", true)
  | 7 => ("HopCredits$Link", "updateAt", "[I", true)
  | 8 => ("HopCredits$Link", "probesAt", "[I", true)
  | _ => ("HopCredits$Link", "lanes", "[LHopCredits$Lane;", true)
def tyX2 : Nat → FieldType := fun k => match k with
  | 0 => .int
  | 1 => .int
  | 2 => .int
  | 3 => .int
  | 4 => .int
  | 5 => .int
  | 6 => .array .int
  | 7 => .array .int
  | 8 => .array .int
  | _ => .array (.object "HopCredits$Lane")
abbrev wsX20 : List Cond := u_ws RX2 TX2 10
theorem nmX2 : ∀ a, a < 10 → ∀ b, b < 10 → a ≠ b → (TX2 a).2.1 ≠ (TX2 b).2.1 := by decide +kernel
theorem tyX2_ok : ∀ k, k < 10 → parseFieldDescriptor (TX2 k).2.2.1 = some (tyX2 k) := by decide +kernel
abbrev cX2_init : ByteArray := prog_4_method_1_code
def yX2_init : MethodName := ⟨RX2, "<init>", "()V"⟩
abbrev cX2_lay : ByteArray := prog_4_method_2_code
def yX2_lay : MethodName := ⟨RX2, "lay", "(IIII)V"⟩
abbrev cX2_clearSlot : ByteArray := prog_4_method_3_code
def yX2_clearSlot : MethodName := ⟨RX2, "clearSlot", "(I)V"⟩
abbrev cX2_copy : ByteArray := prog_4_method_4_code
def yX2_copy : MethodName := ⟨RX2, "copy", "(LHopCredits$Link;)V"⟩
abbrev cX2_cellsOnOf : ByteArray := prog_4_method_6_code
def yX2_cellsOnOf : MethodName := ⟨RX2, "cellsOnOf", "(I)I"⟩
abbrev cX2_probeBits : ByteArray := prog_4_method_9_code
def yX2_probeBits : MethodName := ⟨RX2, "probeBits", "(I)I"⟩
abbrev cX2_roomFor : ByteArray := prog_4_method_10_code
def yX2_roomFor : MethodName := ⟨RX2, "roomFor", "(II)I"⟩
def RX3 : String := "HopCredits$Net"
def TX3 : u_T := fun k => match k with
  | 0 => ("HopCredits$Net", "hops", "I", false)
  | 1 => ("HopCredits$Net", "circuits", "I", false)
  | 2 => ("HopCredits$Net", "reserve", "I", false)
  | 3 => ("HopCredits$Net", "adapts", "I", false)
  | 4 => ("HopCredits$Net", "probes", "I", false)
  | 5 => ("HopCredits$Net", "tick", "I", false)
  | 6 => ("HopCredits$Net", "lost", "I", false)
  | 7 => ("HopCredits$Net", "probesSent", "I", false)
  | 8 => ("HopCredits$Net", "links", "[LHopCredits$Link;", true)
  | 9 => ("HopCredits$Net", "flows", "[LHopCredits$Flow;", true)
  | _ => ("HopCredits$Net", "buffers", "[I", true)
def tyX3 : Nat → FieldType := fun k => match k with
  | 0 => .int
  | 1 => .int
  | 2 => .int
  | 3 => .int
  | 4 => .int
  | 5 => .int
  | 6 => .int
  | 7 => .int
  | 8 => .array (.object "HopCredits$Link")
  | 9 => .array (.object "HopCredits$Flow")
  | _ => .array .int
abbrev wsX30 : List Cond := u_ws RX3 TX3 11
theorem nmX3 : ∀ a, a < 11 → ∀ b, b < 11 → a ≠ b → (TX3 a).2.1 ≠ (TX3 b).2.1 := by decide +kernel
theorem tyX3_ok : ∀ k, k < 11 → parseFieldDescriptor (TX3 k).2.2.1 = some (tyX3 k) := by decide +kernel
abbrev cX3_init : ByteArray := prog_5_method_1_code
def yX3_init : MethodName := ⟨RX3, "<init>", "()V"⟩
abbrev cX3_lay : ByteArray := prog_5_method_2_code
def yX3_lay : MethodName := ⟨RX3, "lay", "(LHopCredits$Reading;)V"⟩
abbrev cX3_layAlone : ByteArray := prog_5_method_3_code
def yX3_layAlone : MethodName := ⟨RX3, "layAlone", "(IIII)V"⟩
abbrev cX3_layRules : ByteArray := prog_5_method_4_code
def yX3_layRules : MethodName := ⟨RX3, "layRules", "(III)V"⟩
abbrev cX3_copy : ByteArray := prog_5_method_5_code
def yX3_copy : MethodName := ⟨RX3, "copy", "(LHopCredits$Net;)V"⟩
abbrev cX3_steps : ByteArray := prog_5_method_6_code
def yX3_steps : MethodName := ⟨RX3, "steps", "(I)V"⟩
abbrev cX3_step : ByteArray := prog_5_method_7_code
def yX3_step : MethodName := ⟨RX3, "step", "()V"⟩
abbrev cX3_restingStep : ByteArray := prog_5_method_8_code
def yX3_restingStep : MethodName := ⟨RX3, "restingStep", "()V"⟩
abbrev cX3_arriveOver : ByteArray := prog_5_method_9_code
def yX3_arriveOver : MethodName := ⟨RX3, "arriveOver", "(I)V"⟩
abbrev cX3_come : ByteArray := prog_5_method_10_code
def yX3_come : MethodName := ⟨RX3, "come", "(I)V"⟩
abbrev cX3_take : ByteArray := prog_5_method_11_code
def yX3_take : MethodName := ⟨RX3, "take", "(I)V"⟩
abbrev cX3_sendOver : ByteArray := prog_5_method_12_code
def yX3_sendOver : MethodName := ⟨RX3, "sendOver", "(I)V"⟩
abbrev cX3_nextSender : ByteArray := prog_5_method_13_code
def yX3_nextSender : MethodName := ⟨RX3, "nextSender", "(I)I"⟩
abbrev cX3_goneFrom : ByteArray := prog_5_method_14_code
def yX3_goneFrom : MethodName := ⟨RX3, "goneFrom", "(II)V"⟩
abbrev cX3_sendUpdate : ByteArray := prog_5_method_15_code
def yX3_sendUpdate : MethodName := ⟨RX3, "sendUpdate", "(LHopCredits$Link;I)V"⟩
abbrev cX3_sendProbe : ByteArray := prog_5_method_16_code
def yX3_sendProbe : MethodName := ⟨RX3, "sendProbe", "(LHopCredits$Link;I)V"⟩
abbrev cX3_waitAt : ByteArray := prog_5_method_17_code
def yX3_waitAt : MethodName := ⟨RX3, "waitAt", "(I)V"⟩
abbrev cX3_adapt : ByteArray := prog_5_method_18_code
def yX3_adapt : MethodName := ⟨RX3, "adapt", "(LHopCredits$Link;)V"⟩
abbrev cX3_aimOf : ByteArray := prog_5_method_19_code
def yX3_aimOf : MethodName := ⟨RX3, "aimOf", "(LHopCredits$Link;I)I"⟩
abbrev cX3_waitingAt : ByteArray := prog_5_method_20_code
def yX3_waitingAt : MethodName := ⟨RX3, "waitingAt", "(II)I"⟩
abbrev cX3_lacksCredit : ByteArray := prog_5_method_21_code
def yX3_lacksCredit : MethodName := ⟨RX3, "lacksCredit", "(II)Z"⟩
abbrev cX3_crowd : ByteArray := prog_5_method_22_code
def yX3_crowd : MethodName := ⟨RX3, "crowd", "(III)I"⟩
abbrev cX3_cellsOf : ByteArray := prog_5_method_23_code
def yX3_cellsOf : MethodName := ⟨RX3, "cellsOf", "(I)I"⟩
abbrev cX3_cellsOfAll : ByteArray := prog_5_method_24_code
def yX3_cellsOfAll : MethodName := ⟨RX3, "cellsOfAll", "()I"⟩
abbrev cX3_deliveredOfAll : ByteArray := prog_5_method_25_code
def yX3_deliveredOfAll : MethodName := ⟨RX3, "deliveredOfAll", "()I"⟩
abbrev cX3_unknown : ByteArray := prog_5_method_26_code
def yX3_unknown : MethodName := ⟨RX3, "unknown", "()I"⟩
abbrev cX3_movedNow : ByteArray := prog_5_method_27_code
def yX3_movedNow : MethodName := ⟨RX3, "movedNow", "()Z"⟩
def RX4 : String := "HopCredits$Reading"
def TX4 : u_T := fun k => match k with
  | 0 => ("HopCredits$Reading", "text", "[I", false)
  | 1 => ("HopCredits$Reading", "length", "I", false)
  | 2 => ("HopCredits$Reading", "at", "I", false)
  | 3 => ("HopCredits$Reading", "fault", "I", false)
  | 4 => ("HopCredits$Reading", "hopsTold", "I", false)
  | 5 => ("HopCredits$Reading", "circuitsTold", "I", false)
  | _ => ("HopCredits$Reading", "values", "[I", true)
def tyX4 : Nat → FieldType := fun k => match k with
  | 0 => .array .int
  | 1 => .int
  | 2 => .int
  | 3 => .int
  | 4 => .int
  | 5 => .int
  | _ => .array .int
abbrev wsX40 : List Cond := u_ws RX4 TX4 7
theorem nmX4 : ∀ a, a < 7 → ∀ b, b < 7 → a ≠ b → (TX4 a).2.1 ≠ (TX4 b).2.1 := by decide +kernel
theorem tyX4_ok : ∀ k, k < 7 → parseFieldDescriptor (TX4 k).2.2.1 = some (tyX4 k) := by decide +kernel
abbrev cX4_init : ByteArray := prog_6_method_1_code
def yX4_init : MethodName := ⟨RX4, "<init>", "()V"⟩
abbrev cX4_faultOf : ByteArray := prog_6_method_2_code
def yX4_faultOf : MethodName := ⟨RX4, "faultOf", "([II)I"⟩
abbrev cX4_setUsual : ByteArray := prog_6_method_3_code
def yX4_setUsual : MethodName := ⟨RX4, "setUsual", "()V"⟩
abbrev cX4_kindOf : ByteArray := prog_6_method_4_code
def yX4_kindOf : MethodName := ⟨RX4, "kindOf", "(I)I"⟩
abbrev cX4_readClause : ByteArray := prog_6_method_5_code
def yX4_readClause : MethodName := ⟨RX4, "readClause", "(Z)V"⟩
abbrev cX4_readHead : ByteArray := prog_6_method_6_code
def yX4_readHead : MethodName := ⟨RX4, "readHead", "(Z)I"⟩
abbrev cX4_clauseOf : ByteArray := prog_6_method_7_code
def yX4_clauseOf : MethodName := ⟨RX4, "clauseOf", "(IZ)I"⟩
abbrev cX4_itemOf : ByteArray := prog_6_method_8_code
def yX4_itemOf : MethodName := ⟨RX4, "itemOf", "(II)I"⟩
abbrev cX4_readNumber : ByteArray := prog_6_method_9_code
def yX4_readNumber : MethodName := ⟨RX4, "readNumber", "(II)V"⟩
abbrev cX4_isDigitHere : ByteArray := prog_6_method_10_code
def yX4_isDigitHere : MethodName := ⟨RX4, "isDigitHere", "()Z"⟩
abbrev cX4_passBlanks : ByteArray := prog_6_method_11_code
def yX4_passBlanks : MethodName := ⟨RX4, "passBlanks", "()V"⟩
abbrev cX4_hops : ByteArray := prog_6_method_12_code
def yX4_hops : MethodName := ⟨RX4, "hops", "()I"⟩
abbrev cX4_circuits : ByteArray := prog_6_method_13_code
def yX4_circuits : MethodName := ⟨RX4, "circuits", "()I"⟩
abbrev cX4_ofRules : ByteArray := prog_6_method_14_code
def yX4_ofRules : MethodName := ⟨RX4, "ofRules", "(I)I"⟩
abbrev cX4_ofHop : ByteArray := prog_6_method_15_code
def yX4_ofHop : MethodName := ⟨RX4, "ofHop", "(II)I"⟩
abbrev cX4_ofCircuit : ByteArray := prog_6_method_16_code
def yX4_ofCircuit : MethodName := ⟨RX4, "ofCircuit", "(II)I"⟩
def RX5 : String := "HopCredits$Trips"
def TX5 : u_T := fun k => match k with
  | 0 => ("HopCredits$Trips", "begun", "[I", true)
  | 1 => ("HopCredits$Trips", "first", "I", false)
  | 2 => ("HopCredits$Trips", "underway", "I", false)
  | 3 => ("HopCredits$Trips", "latest", "I", false)
  | 4 => ("HopCredits$Trips", "longest", "I", false)
  | _ => ("HopCredits$Trips", "total", "I", false)
def tyX5 : Nat → FieldType := fun k => match k with
  | 0 => .array .int
  | 1 => .int
  | 2 => .int
  | 3 => .int
  | 4 => .int
  | _ => .int
abbrev wsX50 : List Cond := u_ws RX5 TX5 6
theorem nmX5 : ∀ a, a < 6 → ∀ b, b < 6 → a ≠ b → (TX5 a).2.1 ≠ (TX5 b).2.1 := by decide +kernel
theorem tyX5_ok : ∀ k, k < 6 → parseFieldDescriptor (TX5 k).2.2.1 = some (tyX5 k) := by decide +kernel
abbrev cX5_init : ByteArray := prog_7_method_1_code
def yX5_init : MethodName := ⟨RX5, "<init>", "()V"⟩
abbrev cX5_clear : ByteArray := prog_7_method_2_code
def yX5_clear : MethodName := ⟨RX5, "clear", "()V"⟩
abbrev cX5_begin : ByteArray := prog_7_method_3_code
def yX5_begin : MethodName := ⟨RX5, "begin", "(I)V"⟩
abbrev cX5_firstBegun : ByteArray := prog_7_method_4_code
def yX5_firstBegun : MethodName := ⟨RX5, "firstBegun", "()I"⟩
abbrev cX5_finish : ByteArray := prog_7_method_5_code
def yX5_finish : MethodName := ⟨RX5, "finish", "(I)V"⟩
def RX6 : String := "HopCredits"
def TX6 : u_T := fun k => match k with
  | 0 => ("HopCredits", "tape", "[I", true)
  | 1 => ("HopCredits", "tapeLength", "I", false)
  | 2 => ("HopCredits", "refused", "[I", true)
  | 3 => ("HopCredits", "reading", "LHopCredits$Reading;", true)
  | 4 => ("HopCredits", "now", "LHopCredits$Net;", true)
  | 5 => ("HopCredits", "apart", "LHopCredits$Net;", true)
  | 6 => ("HopCredits", "trips", "[LHopCredits$Trips;", true)
  | 7 => ("HopCredits", "tally", "[I", true)
  | _ => ("HopCredits", "laid", "Z", false)
def tyX6 : Nat → FieldType := fun k => match k with
  | 0 => .array .int
  | 1 => .int
  | 2 => .array .int
  | 3 => .object "HopCredits$Reading"
  | 4 => .object "HopCredits$Net"
  | 5 => .object "HopCredits$Net"
  | 6 => .array (.object "HopCredits$Trips")
  | 7 => .array .int
  | _ => .boolean
abbrev wsX60 : List Cond := u_ws RX6 TX6 9
theorem nmX6 : ∀ a, a < 9 → ∀ b, b < 9 → a ≠ b → (TX6 a).2.1 ≠ (TX6 b).2.1 := by decide +kernel
theorem tyX6_ok : ∀ k, k < 9 → parseFieldDescriptor (TX6 k).2.2.1 = some (tyX6 k) := by decide +kernel
abbrev cX6_init : ByteArray := prog_1_method_1_code
def yX6_init : MethodName := ⟨RX6, "<init>", "()V"⟩
abbrev cX6_feed : ByteArray := prog_1_method_2_code
def yX6_feed : MethodName := ⟨RX6, "feed", "(IIIII)I"⟩
abbrev cX6_signsIn : ByteArray := prog_1_method_3_code
def yX6_signsIn : MethodName := ⟨RX6, "signsIn", "(I)I"⟩
abbrev cX6_append : ByteArray := prog_1_method_4_code
def yX6_append : MethodName := ⟨RX6, "append", "(I)V"⟩
abbrev cX6_end : ByteArray := prog_1_method_5_code
def yX6_end : MethodName := ⟨RX6, "end", "(I)Z"⟩
abbrev cX6_fault : ByteArray := prog_1_method_6_code
def yX6_fault : MethodName := ⟨RX6, "fault", "()I"⟩
abbrev cX6_net : ByteArray := prog_1_method_7_code
def yX6_net : MethodName := ⟨RX6, "net", "()I"⟩
abbrev cX6_rule : ByteArray := prog_1_method_8_code
def yX6_rule : MethodName := ⟨RX6, "rule", "(I)I"⟩
abbrev cX6_lane : ByteArray := prog_1_method_11_code
def yX6_lane : MethodName := ⟨RX6, "lane", "(III)I"⟩
abbrev cX6_toldOfLane : ByteArray := prog_1_method_12_code
def yX6_toldOfLane : MethodName := ⟨RX6, "toldOfLane", "(LHopCredits$Net;III)I"⟩
abbrev cX6_buffer : ByteArray := prog_1_method_13_code
def yX6_buffer : MethodName := ⟨RX6, "buffer", "(II)I"⟩
abbrev cX6_way : ByteArray := prog_1_method_14_code
def yX6_way : MethodName := ⟨RX6, "way", "(III)I"⟩
abbrev cX6_go : ByteArray := prog_1_method_15_code
def yX6_go : MethodName := ⟨RX6, "go", "(I)I"⟩
abbrev cX6_stepForReal : ByteArray := prog_1_method_16_code
def yX6_stepForReal : MethodName := ⟨RX6, "stepForReal", "()V"⟩
abbrev cX6_jam : ByteArray := prog_1_method_17_code
def yX6_jam : MethodName := ⟨RX6, "jam", "(II)I"⟩
abbrev cX6_source : ByteArray := prog_1_method_18_code
def yX6_source : MethodName := ⟨RX6, "source", "(III)I"⟩
abbrev cX6_takes : ByteArray := prog_1_method_19_code
def yX6_takes : MethodName := ⟨RX6, "takes", "(II)I"⟩
abbrev cX6_zone : ByteArray := prog_1_method_20_code
def yX6_zone : MethodName := ⟨RX6, "zone", "(III)I"⟩
abbrev cX6_zoneRefusal : ByteArray := prog_1_method_21_code
def yX6_zoneRefusal : MethodName := ⟨RX6, "zoneRefusal", "(III)I"⟩
abbrev cX6_largestZone : ByteArray := prog_1_method_22_code
def yX6_largestZone : MethodName := ⟨RX6, "largestZone", "(II)I"⟩
abbrev cX6_probe : ByteArray := prog_1_method_23_code
def yX6_probe : MethodName := ⟨RX6, "probe", "(II)I"⟩
abbrev cX6_status : ByteArray := prog_1_method_24_code
def yX6_status : MethodName := ⟨RX6, "status", "(I)I"⟩
abbrev cX6_refuse : ByteArray := prog_1_method_25_code
def yX6_refuse : MethodName := ⟨RX6, "refuse", "(I)I"⟩
abbrev cX6_laneAhead : ByteArray := prog_1_method_26_code
def yX6_laneAhead : MethodName := ⟨RX6, "laneAhead", "(IIII)I"⟩
abbrev cX6_bufferAhead : ByteArray := prog_1_method_27_code
def yX6_bufferAhead : MethodName := ⟨RX6, "bufferAhead", "(III)I"⟩
abbrev cX6_goApart : ByteArray := prog_1_method_28_code
def yX6_goApart : MethodName := ⟨RX6, "goApart", "(I)V"⟩
abbrev cX6_delivered : ByteArray := prog_1_method_29_code
def yX6_delivered : MethodName := ⟨RX6, "delivered", "(II)I"⟩
abbrev cX6_deliveredApart : ByteArray := prog_1_method_30_code
def yX6_deliveredApart : MethodName := ⟨RX6, "deliveredApart", "()I"⟩
abbrev cX6_deliveredApartOf : ByteArray := prog_1_method_31_code
def yX6_deliveredApartOf : MethodName := ⟨RX6, "deliveredApartOf", "(I)I"⟩
abbrev cX6_heldUp : ByteArray := prog_1_method_32_code
def yX6_heldUp : MethodName := ⟨RX6, "heldUp", "(II)I"⟩
abbrev cX6_idle : ByteArray := prog_1_method_33_code
def yX6_idle : MethodName := ⟨RX6, "idle", "(II)I"⟩
abbrev cX6_tallyIdle : ByteArray := prog_1_method_34_code
def yX6_tallyIdle : MethodName := ⟨RX6, "tallyIdle", "(I)V"⟩
abbrev cX6_clearTally : ByteArray := prog_1_method_35_code
def yX6_clearTally : MethodName := ⟨RX6, "clearTally", "()V"⟩
abbrev cX6_most : ByteArray := prog_1_method_36_code
def yX6_most : MethodName := ⟨RX6, "most", "(IIII)I"⟩
abbrev cX6_healed : ByteArray := prog_1_method_37_code
def yX6_healed : MethodName := ⟨RX6, "healed", "()I"⟩
abbrev cX6_loss : ByteArray := prog_1_method_38_code
def yX6_loss : MethodName := ⟨RX6, "loss", "(II)I"⟩
abbrev cX6_deliveredJammed : ByteArray := prog_1_method_39_code
def yX6_deliveredJammed : MethodName := ⟨RX6, "deliveredJammed", "(II)I"⟩
abbrev cX6_fair : ByteArray := prog_1_method_40_code
def yX6_fair : MethodName := ⟨RX6, "fair", "(I)I"⟩
abbrev cX6_learns : ByteArray := prog_1_method_41_code
def yX6_learns : MethodName := ⟨RX6, "learns", "(II)I"⟩
abbrev cX6_reaches : ByteArray := prog_1_method_42_code
def yX6_reaches : MethodName := ⟨RX6, "reaches", "(II)Z"⟩
abbrev cX6_stuck : ByteArray := prog_1_method_43_code
def yX6_stuck : MethodName := ⟨RX6, "stuck", "()Z"⟩
abbrev cX6_would : ByteArray := prog_1_method_44_code
def yX6_would : MethodName := ⟨RX6, "would", "(IIII)I"⟩
abbrev cX6_deliveredByZone : ByteArray := prog_1_method_45_code
def yX6_deliveredByZone : MethodName := ⟨RX6, "deliveredByZone", "(IIII)I"⟩
abbrev cX6_bestZone : ByteArray := prog_1_method_46_code
def yX6_bestZone : MethodName := ⟨RX6, "bestZone", "(III)I"⟩
abbrev cX6_bears : ByteArray := prog_1_method_47_code
def yX6_bears : MethodName := ⟨RX6, "bears", "(I)I"⟩
abbrev cX6_waits : ByteArray := prog_1_method_48_code
def yX6_waits : MethodName := ⟨RX6, "waits", "(III)I"⟩
abbrev cX6_tallyWaits : ByteArray := prog_1_method_49_code
def yX6_tallyWaits : MethodName := ⟨RX6, "tallyWaits", "(II)V"⟩
abbrev cX6_worst : ByteArray := prog_1_method_50_code
def yX6_worst : MethodName := ⟨RX6, "worst", "(II)I"⟩
abbrev cX6_busiest : ByteArray := prog_1_method_51_code
def yX6_busiest : MethodName := ⟨RX6, "busiest", "(I)I"⟩
abbrev cX6_alone : ByteArray := prog_1_method_52_code
def yX6_alone : MethodName := ⟨RX6, "alone", "(IIIII)I"⟩
abbrev cX6_isNoLink : ByteArray := prog_1_method_53_code
def yX6_isNoLink : MethodName := ⟨RX6, "isNoLink", "(IIII)Z"⟩
abbrev cX6_sentAlone : ByteArray := prog_1_method_54_code
def yX6_sentAlone : MethodName := ⟨RX6, "sentAlone", "(IIIII)I"⟩
abbrev cX6_full : ByteArray := prog_1_method_55_code
def yX6_full : MethodName := ⟨RX6, "full", "(IIII)I"⟩
abbrev cX6_law : ByteArray := prog_1_method_56_code
def yX6_law : MethodName := ⟨RX6, "law", "(III)I"⟩
abbrev cX6_aim : ByteArray := prog_1_method_57_code
def yX6_aim : MethodName := ⟨RX6, "aim", "(II)I"⟩
abbrev cX6_room : ByteArray := prog_1_method_58_code
def yX6_room : MethodName := ⟨RX6, "room", "(II)I"⟩
abbrev cX6_trip : ByteArray := prog_1_method_59_code
def yX6_trip : MethodName := ⟨RX6, "trip", "(II)I"⟩
abbrev cX6_oldest : ByteArray := prog_1_method_60_code
def yX6_oldest : MethodName := ⟨RX6, "oldest", "(I)I"⟩
abbrev cX6_count : ByteArray := prog_1_method_61_code
def yX6_count : MethodName := ⟨RX6, "count", "(I)I"⟩
abbrev cX6_outside : ByteArray := prog_1_method_62_code
def yX6_outside : MethodName := ⟨RX6, "outside", "(III)Z"⟩
abbrev cX6_isHop : ByteArray := prog_1_method_63_code
def yX6_isHop : MethodName := ⟨RX6, "isHop", "(I)Z"⟩
abbrev cX6_isCircuit : ByteArray := prog_1_method_64_code
def yX6_isCircuit : MethodName := ⟨RX6, "isCircuit", "(I)Z"⟩
abbrev cX6_isLane : ByteArray := prog_1_method_65_code
def yX6_isLane : MethodName := ⟨RX6, "isLane", "(II)Z"⟩
abbrev cX6_isNode : ByteArray := prog_1_method_66_code
def yX6_isNode : MethodName := ⟨RX6, "isNode", "(I)Z"⟩
def RX7 : String := "HopCreditsModel"
def TX7 : u_T := fun k => match k with
  | 0 => ("HopCreditsModel", "thrown", "I", false)
  | 1 => ("HopCreditsModel", "tape", "[I", true)
  | 2 => ("HopCreditsModel", "taped", "I", false)
  | 3 => ("HopCreditsModel", "at", "I", false)
  | 4 => ("HopCreditsModel", "wrong", "I", false)
  | 5 => ("HopCreditsModel", "readRule", "[I", true)
  | 6 => ("HopCreditsModel", "readHop", "[I", true)
  | 7 => ("HopCreditsModel", "readCircuit", "[I", true)
  | 8 => ("HopCreditsModel", "readHops", "I", false)
  | 9 => ("HopCreditsModel", "readCircuits", "I", false)
  | 10 => ("HopCreditsModel", "now", "[I", true)
  | 11 => ("HopCreditsModel", "refused", "[I", true)
  | 12 => ("HopCreditsModel", "rule", "[I", true)
  | 13 => ("HopCreditsModel", "hop", "[I", true)
  | 14 => ("HopCreditsModel", "hops", "I", false)
  | 15 => ("HopCreditsModel", "circuits", "I", false)
  | 16 => ("HopCreditsModel", "aims", "[I", true)
  | 17 => ("HopCreditsModel", "aside", "[I", true)
  | 18 => ("HopCreditsModel", "sentNow", "[I", true)
  | 19 => ("HopCreditsModel", "aloneCell", "[I", true)
  | _ => ("HopCreditsModel", "aloneTold", "[I", true)
def tyX7 : Nat → FieldType := fun k => match k with
  | 0 => .int
  | 1 => .array .int
  | 2 => .int
  | 3 => .int
  | 4 => .int
  | 5 => .array .int
  | 6 => .array .int
  | 7 => .array .int
  | 8 => .int
  | 9 => .int
  | 10 => .array .int
  | 11 => .array .int
  | 12 => .array .int
  | 13 => .array .int
  | 14 => .int
  | 15 => .int
  | 16 => .array .int
  | 17 => .array .int
  | 18 => .array .int
  | 19 => .array .int
  | _ => .array .int
abbrev wsX70 : List Cond := u_ws RX7 TX7 21
theorem nmX7 : ∀ a, a < 21 → ∀ b, b < 21 → a ≠ b → (TX7 a).2.1 ≠ (TX7 b).2.1 := by decide +kernel
theorem tyX7_ok : ∀ k, k < 21 → parseFieldDescriptor (TX7 k).2.2.1 = some (tyX7 k) := by decide +kernel
abbrev cX7_in : ByteArray := prog_9_method_1_code
def yX7_in : MethodName := ⟨RX7, "in", "(III)Z"⟩
abbrev cX7_has : ByteArray := prog_9_method_2_code
def yX7_has : MethodName := ⟨RX7, "has", "(II)Z"⟩
abbrev cX7_less : ByteArray := prog_9_method_3_code
def yX7_less : MethodName := ⟨RX7, "less", "(II)I"⟩
abbrev cX7_init : ByteArray := prog_9_method_4_code
def yX7_init : MethodName := ⟨RX7, "<init>", "()V"⟩
abbrev cX7_thrown : ByteArray := prog_9_method_5_code
def yX7_thrown : MethodName := ⟨RX7, "thrown", "()I"⟩
abbrev cX7_byteOf : ByteArray := prog_9_method_6_code
def yX7_byteOf : MethodName := ⟨RX7, "byteOf", "(IIIIII)I"⟩
abbrev cX7_feed : ByteArray := prog_9_method_7_code
def yX7_feed : MethodName := ⟨RX7, "feed", "(IIIII)I"⟩
abbrev cX7_end : ByteArray := prog_9_method_8_code
def yX7_end : MethodName := ⟨RX7, "end", "(I)Z"⟩
abbrev cX7_here : ByteArray := prog_9_method_9_code
def yX7_here : MethodName := ⟨RX7, "here", "()I"⟩
abbrev cX7_ahead : ByteArray := prog_9_method_10_code
def yX7_ahead : MethodName := ⟨RX7, "ahead", "()I"⟩
abbrev cX7_bad : ByteArray := prog_9_method_11_code
def yX7_bad : MethodName := ⟨RX7, "bad", "()V"⟩
abbrev cX7_isDigit : ByteArray := prog_9_method_12_code
def yX7_isDigit : MethodName := ⟨RX7, "isDigit", "(I)Z"⟩
abbrev cX7_number : ByteArray := prog_9_method_13_code
def yX7_number : MethodName := ⟨RX7, "number", "(II)I"⟩
abbrev cX7_itemBy : ByteArray := prog_9_method_14_code
def yX7_itemBy : MethodName := ⟨RX7, "itemBy", "(II)I"⟩
abbrev cX7_lowest : ByteArray := prog_9_method_15_code
def yX7_lowest : MethodName := ⟨RX7, "lowest", "(II)I"⟩
abbrev cX7_highest : ByteArray := prog_9_method_16_code
def yX7_highest : MethodName := ⟨RX7, "highest", "(II)I"⟩
abbrev cX7_usual : ByteArray := prog_9_method_17_code
def yX7_usual : MethodName := ⟨RX7, "usual", "(II)I"⟩
abbrev cX7_laysUsual : ByteArray := prog_9_method_18_code
def yX7_laysUsual : MethodName := ⟨RX7, "laysUsual", "(I[II)V"⟩
abbrev cX7_items : ByteArray := prog_9_method_19_code
def yX7_items : MethodName := ⟨RX7, "items", "(I[II)V"⟩
abbrev cX7_clause : ByteArray := prog_9_method_20_code
def yX7_clause : MethodName := ⟨RX7, "clause", "(Z)V"⟩
abbrev cX7_readNet : ByteArray := prog_9_method_21_code
def yX7_readNet : MethodName := ⟨RX7, "readNet", "()I"⟩
abbrev cX7_fault : ByteArray := prog_9_method_22_code
def yX7_fault : MethodName := ⟨RX7, "fault", "()I"⟩
abbrev cX7_isNet : ByteArray := prog_9_method_23_code
def yX7_isNet : MethodName := ⟨RX7, "isNet", "()Z"⟩
abbrev cX7_isHop : ByteArray := prog_9_method_24_code
def yX7_isHop : MethodName := ⟨RX7, "isHop", "(I)Z"⟩
abbrev cX7_isCircuit : ByteArray := prog_9_method_25_code
def yX7_isCircuit : MethodName := ⟨RX7, "isCircuit", "(I)Z"⟩
abbrev cX7_isLane : ByteArray := prog_9_method_26_code
def yX7_isLane : MethodName := ⟨RX7, "isLane", "(II)Z"⟩
abbrev cX7_isNode : ByteArray := prog_9_method_27_code
def yX7_isNode : MethodName := ⟨RX7, "isNode", "(I)Z"⟩
abbrev cX7_lane : ByteArray := prog_9_method_28_code
def yX7_lane : MethodName := ⟨RX7, "lane", "(II)I"⟩
abbrev cX7_bufferAt : ByteArray := prog_9_method_29_code
def yX7_bufferAt : MethodName := ⟨RX7, "bufferAt", "(II)I"⟩
abbrev cX7_circuitAt : ByteArray := prog_9_method_30_code
def yX7_circuitAt : MethodName := ⟨RX7, "circuitAt", "(I)I"⟩
abbrev cX7_wayAt : ByteArray := prog_9_method_31_code
def yX7_wayAt : MethodName := ⟨RX7, "wayAt", "(II)I"⟩
abbrev cX7_delay : ByteArray := prog_9_method_32_code
def yX7_delay : MethodName := ⟨RX7, "delay", "(I)I"⟩
abbrev cX7_pool : ByteArray := prog_9_method_33_code
def yX7_pool : MethodName := ⟨RX7, "pool", "(I)I"⟩
abbrev cX7_clearsWay : ByteArray := prog_9_method_34_code
def yX7_clearsWay : MethodName := ⟨RX7, "clearsWay", "(II)V"⟩
abbrev cX7_net : ByteArray := prog_9_method_35_code
def yX7_net : MethodName := ⟨RX7, "net", "()I"⟩
abbrev cX7_laysHop : ByteArray := prog_9_method_36_code
def yX7_laysHop : MethodName := ⟨RX7, "laysHop", "(I)V"⟩
abbrev cX7_outOf : ByteArray := prog_9_method_37_code
def yX7_outOf : MethodName := ⟨RX7, "outOf", "(II)I"⟩
abbrev cX7_credit : ByteArray := prog_9_method_38_code
def yX7_credit : MethodName := ⟨RX7, "credit", "(II)I"⟩
abbrev cX7_leftFor : ByteArray := prog_9_method_39_code
def yX7_leftFor : MethodName := ⟨RX7, "leftFor", "(II)I"⟩
abbrev cX7_roomFor : ByteArray := prog_9_method_40_code
def yX7_roomFor : MethodName := ⟨RX7, "roomFor", "(II)I"⟩
abbrev cX7_aimOf : ByteArray := prog_9_method_41_code
def yX7_aimOf : MethodName := ⟨RX7, "aimOf", "(II)I"⟩
abbrev cX7_updates : ByteArray := prog_9_method_42_code
def yX7_updates : MethodName := ⟨RX7, "updates", "(II)V"⟩
abbrev cX7_goesFrom : ByteArray := prog_9_method_43_code
def yX7_goesFrom : MethodName := ⟨RX7, "goesFrom", "(II)V"⟩
abbrev cX7_probes : ByteArray := prog_9_method_44_code
def yX7_probes : MethodName := ⟨RX7, "probes", "(II)V"⟩
abbrev cX7_arrives : ByteArray := prog_9_method_45_code
def yX7_arrives : MethodName := ⟨RX7, "arrives", "(I)V"⟩
abbrev cX7_comes : ByteArray := prog_9_method_46_code
def yX7_comes : MethodName := ⟨RX7, "comes", "(I)V"⟩
abbrev cX7_isTaken : ByteArray := prog_9_method_47_code
def yX7_isTaken : MethodName := ⟨RX7, "isTaken", "(I)V"⟩
abbrev cX7_sender : ByteArray := prog_9_method_48_code
def yX7_sender : MethodName := ⟨RX7, "sender", "(I)I"⟩
abbrev cX7_sends : ByteArray := prog_9_method_49_code
def yX7_sends : MethodName := ⟨RX7, "sends", "(I)V"⟩
abbrev cX7_isHeld : ByteArray := prog_9_method_50_code
def yX7_isHeld : MethodName := ⟨RX7, "isHeld", "(II)Z"⟩
abbrev cX7_waits : ByteArray := prog_9_method_51_code
def yX7_waits : MethodName := ⟨RX7, "waits", "(I)V"⟩
abbrev cX7_adapts : ByteArray := prog_9_method_52_code
def yX7_adapts : MethodName := ⟨RX7, "adapts", "(I)V"⟩
abbrev cX7_ticks : ByteArray := prog_9_method_53_code
def yX7_ticks : MethodName := ⟨RX7, "ticks", "()V"⟩
abbrev cX7_refuses : ByteArray := prog_9_method_54_code
def yX7_refuses : MethodName := ⟨RX7, "refuses", "(I)I"⟩
abbrev cX7_go : ByteArray := prog_9_method_55_code
def yX7_go : MethodName := ⟨RX7, "go", "(I)I"⟩
abbrev cX7_jam : ByteArray := prog_9_method_56_code
def yX7_jam : MethodName := ⟨RX7, "jam", "(II)I"⟩
abbrev cX7_source : ByteArray := prog_9_method_57_code
def yX7_source : MethodName := ⟨RX7, "source", "(III)I"⟩
abbrev cX7_takes : ByteArray := prog_9_method_58_code
def yX7_takes : MethodName := ⟨RX7, "takes", "(II)I"⟩
abbrev cX7_whyZone : ByteArray := prog_9_method_59_code
def yX7_whyZone : MethodName := ⟨RX7, "whyZone", "(III)I"⟩
abbrev cX7_zone : ByteArray := prog_9_method_60_code
def yX7_zone : MethodName := ⟨RX7, "zone", "(III)I"⟩
abbrev cX7_probe : ByteArray := prog_9_method_61_code
def yX7_probe : MethodName := ⟨RX7, "probe", "(II)I"⟩
abbrev cX7_status : ByteArray := prog_9_method_62_code
def yX7_status : MethodName := ⟨RX7, "status", "(I)I"⟩
abbrev cX7_cellsOn : ByteArray := prog_9_method_63_code
def yX7_cellsOn : MethodName := ⟨RX7, "cellsOn", "(II)I"⟩
abbrev cX7_toldOn : ByteArray := prog_9_method_64_code
def yX7_toldOn : MethodName := ⟨RX7, "toldOn", "(IZ)I"⟩
abbrev cX7_anywhere : ByteArray := prog_9_method_65_code
def yX7_anywhere : MethodName := ⟨RX7, "anywhere", "(I)I"⟩
abbrev cX7_rule : ByteArray := prog_9_method_66_code
def yX7_rule : MethodName := ⟨RX7, "rule", "(I)I"⟩
abbrev cX7_hop : ByteArray := prog_9_method_67_code
def yX7_hop : MethodName := ⟨RX7, "hop", "(II)I"⟩
abbrev cX7_circuit : ByteArray := prog_9_method_68_code
def yX7_circuit : MethodName := ⟨RX7, "circuit", "(II)I"⟩
abbrev cX7_laneNow : ByteArray := prog_9_method_69_code
def yX7_laneNow : MethodName := ⟨RX7, "laneNow", "(III)I"⟩
abbrev cX7_lane_ : ByteArray := prog_9_method_70_code
def yX7_lane_ : MethodName := ⟨RX7, "lane", "(III)I"⟩
abbrev cX7_buffer : ByteArray := prog_9_method_71_code
def yX7_buffer : MethodName := ⟨RX7, "buffer", "(II)I"⟩
abbrev cX7_way : ByteArray := prog_9_method_72_code
def yX7_way : MethodName := ⟨RX7, "way", "(III)I"⟩
abbrev cX7_putAside : ByteArray := prog_9_method_73_code
def yX7_putAside : MethodName := ⟨RX7, "putAside", "()V"⟩
abbrev cX7_bringBack : ByteArray := prog_9_method_74_code
def yX7_bringBack : MethodName := ⟨RX7, "bringBack", "()V"⟩
abbrev cX7_goesOn : ByteArray := prog_9_method_75_code
def yX7_goesOn : MethodName := ⟨RX7, "goesOn", "(I)V"⟩
abbrev cX7_isSpan : ByteArray := prog_9_method_76_code
def yX7_isSpan : MethodName := ⟨RX7, "isSpan", "(II)Z"⟩
abbrev cX7_laneAhead : ByteArray := prog_9_method_77_code
def yX7_laneAhead : MethodName := ⟨RX7, "laneAhead", "(IIII)I"⟩
abbrev cX7_bufferAhead : ByteArray := prog_9_method_78_code
def yX7_bufferAhead : MethodName := ⟨RX7, "bufferAhead", "(III)I"⟩
abbrev cX7_deliveredOf : ByteArray := prog_9_method_79_code
def yX7_deliveredOf : MethodName := ⟨RX7, "deliveredOf", "(I)I"⟩
abbrev cX7_deliveredIn : ByteArray := prog_9_method_80_code
def yX7_deliveredIn : MethodName := ⟨RX7, "deliveredIn", "(II)I"⟩
abbrev cX7_delivered : ByteArray := prog_9_method_81_code
def yX7_delivered : MethodName := ⟨RX7, "delivered", "(II)I"⟩
abbrev cX7_heldUp : ByteArray := prog_9_method_82_code
def yX7_heldUp : MethodName := ⟨RX7, "heldUp", "(II)I"⟩
abbrev cX7_sentOver : ByteArray := prog_9_method_83_code
def yX7_sentOver : MethodName := ⟨RX7, "sentOver", "(I)I"⟩
abbrev cX7_idleOf : ByteArray := prog_9_method_84_code
def yX7_idleOf : MethodName := ⟨RX7, "idleOf", "(II)I"⟩
abbrev cX7_idle : ByteArray := prog_9_method_85_code
def yX7_idle : MethodName := ⟨RX7, "idle", "(II)I"⟩
abbrev cX7_busiest : ByteArray := prog_9_method_86_code
def yX7_busiest : MethodName := ⟨RX7, "busiest", "(I)I"⟩
abbrev cX7_there : ByteArray := prog_9_method_87_code
def yX7_there : MethodName := ⟨RX7, "there", "(III)I"⟩
abbrev cX7_most : ByteArray := prog_9_method_88_code
def yX7_most : MethodName := ⟨RX7, "most", "(IIII)I"⟩
abbrev cX7_unknown : ByteArray := prog_9_method_89_code
def yX7_unknown : MethodName := ⟨RX7, "unknown", "()I"⟩
abbrev cX7_ticksStill : ByteArray := prog_9_method_90_code
def yX7_ticksStill : MethodName := ⟨RX7, "ticksStill", "()V"⟩
abbrev cX7_healed : ByteArray := prog_9_method_91_code
def yX7_healed : MethodName := ⟨RX7, "healed", "()I"⟩
abbrev cX7_deliveredJammed : ByteArray := prog_9_method_92_code
def yX7_deliveredJammed : MethodName := ⟨RX7, "deliveredJammed", "(II)I"⟩
abbrev cX7_loss : ByteArray := prog_9_method_93_code
def yX7_loss : MethodName := ⟨RX7, "loss", "(II)I"⟩
abbrev cX7_lossOf : ByteArray := prog_9_method_94_code
def yX7_lossOf : MethodName := ⟨RX7, "lossOf", "(II)I"⟩
abbrev cX7_bears : ByteArray := prog_9_method_95_code
def yX7_bears : MethodName := ⟨RX7, "bears", "(I)I"⟩
abbrev cX7_fair : ByteArray := prog_9_method_96_code
def yX7_fair : MethodName := ⟨RX7, "fair", "(I)I"⟩
abbrev cX7_learns : ByteArray := prog_9_method_97_code
def yX7_learns : MethodName := ⟨RX7, "learns", "(II)I"⟩
abbrev cX7_cellsAnywhere : ByteArray := prog_9_method_98_code
def yX7_cellsAnywhere : MethodName := ⟨RX7, "cellsAnywhere", "()I"⟩
abbrev cX7_stuck : ByteArray := prog_9_method_99_code
def yX7_stuck : MethodName := ⟨RX7, "stuck", "()Z"⟩
abbrev cX7_deliveredByZone : ByteArray := prog_9_method_100_code
def yX7_deliveredByZone : MethodName := ⟨RX7, "deliveredByZone", "(IIII)I"⟩
abbrev cX7_would : ByteArray := prog_9_method_101_code
def yX7_would : MethodName := ⟨RX7, "would", "(IIII)I"⟩
abbrev cX7_bestZone : ByteArray := prog_9_method_102_code
def yX7_bestZone : MethodName := ⟨RX7, "bestZone", "(III)I"⟩
abbrev cX7_waitsOf : ByteArray := prog_9_method_103_code
def yX7_waitsOf : MethodName := ⟨RX7, "waitsOf", "(III)I"⟩
abbrev cX7_waits_ : ByteArray := prog_9_method_104_code
def yX7_waits_ : MethodName := ⟨RX7, "waits", "(III)I"⟩
abbrev cX7_worst : ByteArray := prog_9_method_105_code
def yX7_worst : MethodName := ⟨RX7, "worst", "(II)I"⟩
abbrev cX7_aloneSent : ByteArray := prog_9_method_106_code
def yX7_aloneSent : MethodName := ⟨RX7, "aloneSent", "(IIIII)I"⟩
abbrev cX7_isAlone : ByteArray := prog_9_method_107_code
def yX7_isAlone : MethodName := ⟨RX7, "isAlone", "(IIII)Z"⟩
abbrev cX7_alone : ByteArray := prog_9_method_108_code
def yX7_alone : MethodName := ⟨RX7, "alone", "(IIIII)I"⟩
abbrev cX7_full : ByteArray := prog_9_method_109_code
def yX7_full : MethodName := ⟨RX7, "full", "(IIII)I"⟩
abbrev cX7_law : ByteArray := prog_9_method_110_code
def yX7_law : MethodName := ⟨RX7, "law", "(III)I"⟩
abbrev cX7_aim : ByteArray := prog_9_method_111_code
def yX7_aim : MethodName := ⟨RX7, "aim", "(II)I"⟩
abbrev cX7_room : ByteArray := prog_9_method_112_code
def yX7_room : MethodName := ⟨RX7, "room", "(II)I"⟩
abbrev cX7_trip : ByteArray := prog_9_method_113_code
def yX7_trip : MethodName := ⟨RX7, "trip", "(II)I"⟩
abbrev cX7_oldest : ByteArray := prog_9_method_114_code
def yX7_oldest : MethodName := ⟨RX7, "oldest", "(I)I"⟩
abbrev cX7_count : ByteArray := prog_9_method_115_code
def yX7_count : MethodName := ⟨RX7, "count", "(I)I"⟩
def RJ0 : String := "java/lang/String"
abbrev cJ0_charAt_5068e : ByteArray := prog_16_method_56_code
def yJ0_charAt_5068e : MethodName := ⟨RJ0, "charAt", "(I)C"⟩
abbrev cJ0_isLatin1_aae02 : ByteArray := prog_16_method_154_code
def yJ0_isLatin1_aae02 : MethodName := ⟨RJ0, "isLatin1", "()Z"⟩
abbrev cJ0_checkIndex_df160 : ByteArray := prog_16_method_155_code
def yJ0_checkIndex_df160 : MethodName := ⟨RJ0, "checkIndex", "(II)V"⟩
def RJ1 : String := "java/lang/StringLatin1"
abbrev cJ1_charAt_3b067 : ByteArray := prog_17_method_2_code
def yJ1_charAt_3b067 : MethodName := ⟨RJ1, "charAt", "([BI)C"⟩
def RJ2 : String := "java/lang/StringUTF16"
abbrev cJ2_getChar_3b067 : ByteArray := prog_18_method_5_code
def yJ2_getChar_3b067 : MethodName := ⟨RJ2, "getChar", "([BI)C"⟩
abbrev cJ2_length_9d52b : ByteArray := prog_18_method_6_code
def yJ2_length_9d52b : MethodName := ⟨RJ2, "length", "([B)I"⟩
abbrev cJ2_charAt_3b067 : ByteArray := prog_18_method_83_code
def yJ2_charAt_3b067 : MethodName := ⟨RJ2, "charAt", "([BI)C"⟩
abbrev cJ2_checkIndex_2214a : ByteArray := prog_18_method_91_code
def yJ2_checkIndex_2214a : MethodName := ⟨RJ2, "checkIndex", "(I[B)V"⟩
def RJ3 : String := "jdk/internal/util/Preconditions"
abbrev cJ3_checkIndex_8e157 : ByteArray := prog_24_method_11_code
def yJ3_checkIndex_8e157 : MethodName := ⟨RJ3, "checkIndex", "(IILjava/util/function/BiFunction;)I"⟩
def wsX0_init : List Cond := .code yX0_init cX0_init 1 none :: ([.methodLink RX0 1 objectInit, .instanceMethod objectInit, .code objectInit ⟨#[0xb1]⟩ 1 none])
def wsX0_lay : List Cond := .code yX0_lay cX0_lay 4 none :: ([.fieldLink RX0 7 "HopCredits$Flow" "gap" "I", .fieldLink RX0 13 "HopCredits$Flow" "start" "I", .fieldLink RX0 16 "HopCredits$Flow" "takes" "I", .fieldLink RX0 19 "HopCredits$Flow" "came" "I", .fieldLink RX0 22 "HopCredits$Flow" "spilt" "I", .fieldLink RX0 25 "HopCredits$Flow" "delivered" "I", .fieldLink RX0 28 "HopCredits$Flow" "cameNow" "Z", .fieldLink RX0 32 "HopCredits$Flow" "deliveredNow" "Z"] ++ wsX00)
def wsX0_comesIn : List Cond := .code yX0_comesIn cX0_comesIn 2 (some .boolean) :: ([.fieldLink RX0 7 "HopCredits$Flow" "gap" "I", .fieldLink RX0 13 "HopCredits$Flow" "start" "I"] ++ wsX00)
def wsX0_takesIn : List Cond := .code yX0_takesIn cX0_takesIn 2 (some .boolean) :: ([.fieldLink RX0 16 "HopCredits$Flow" "takes" "I"] ++ wsX00)
def wsX1_init : List Cond := .code yX1_init cX1_init 1 none :: ([.methodLink RX1 3 objectInit, .instanceMethod objectInit, .code objectInit ⟨#[0xb1]⟩ 1 none])
def wsX1_lay : List Cond := .code yX1_lay cX1_lay 2 none :: ([.fieldLink RX1 9 "HopCredits$Lane" "sent" "I", .fieldLink RX1 15 "HopCredits$Lane" "gone" "I", .fieldLink RX1 18 "HopCredits$Lane" "known" "I", .fieldLink RX1 21 "HopCredits$Lane" "zone" "I", .fieldLink RX1 24 "HopCredits$Lane" "waited" "I", .fieldLink RX1 27 "HopCredits$Lane" "sinceUpdate" "I", .fieldLink RX1 30 "HopCredits$Lane" "sinceAdapt" "I"] ++ wsX10)
def wsX1_out : List Cond := .code yX1_out cX1_out 1 (some .int) :: ([.fieldLink RX1 9 "HopCredits$Lane" "sent" "I", .fieldLink RX1 18 "HopCredits$Lane" "known" "I"] ++ wsX10)
def wsX6_reaches : List Cond := .code yX6_reaches cX6_reaches 2 (some .boolean) :: ([])
def wsX1_hear : List Cond := .code yX1_hear cX1_hear 2 none :: ([.fieldLink RX1 18 "HopCredits$Lane" "known" "I", .static yX6_reaches, .initialized RX6, .code yX6_reaches cX6_reaches 2 (some .boolean)] ++ wsX10)
def wsX2_init : List Cond := .code yX2_init cX2_init 2 none :: ([.methodLink RX2 3 objectInit, .instanceMethod objectInit, .code objectInit ⟨#[0xb1]⟩ 1 none, .arrayClass .int, .fieldLink RX2 9 "HopCredits$Link" "cellAt" "[I", .fieldLink RX2 15 "HopCredits$Link" "updateAt" "[I", .fieldLink RX2 18 "HopCredits$Link" "probesAt" "[I", .classLink RX2 21 RX1, .fieldLink RX2 23 "HopCredits$Link" "lanes" "[LHopCredits$Lane;", .instantiable RX1 7, .initialized RX1, .instanceMethod yX1_init, .code yX1_init cX1_init 1 none, .methodLink RX1 3 objectInit] ++ wsX20 ++ wsX10)
def wsX2_clearSlot : List Cond := .code yX2_clearSlot cX2_clearSlot 3 none :: ([.fieldLink RX2 9 "HopCredits$Link" "cellAt" "[I", .fieldLink RX2 15 "HopCredits$Link" "updateAt" "[I", .fieldLink RX2 18 "HopCredits$Link" "probesAt" "[I"] ++ wsX20)
def wsX2_lay_r1 : List Cond := [Cond.fieldLink RX2 28 "HopCredits$Link" "delay" "I", Cond.fieldLink RX2 32 "HopCredits$Link" "pool" "I", Cond.fieldLink RX2 35 "HopCredits$Link" "every" "I", Cond.fieldLink RX2 38 "HopCredits$Link" "jammed" "I", Cond.fieldLink RX2 41 "HopCredits$Link" "latest" "I", Cond.fieldLink RX2 44 "HopCredits$Link" "sender" "I", Cond.fieldLink RX2 23 "HopCredits$Link" "lanes" "[LHopCredits$Lane;", Cond.methodLink RX2 47 yX2_clearSlot, Cond.instanceMethod yX2_clearSlot, Cond.selects RX2 yX2_clearSlot yX2_clearSlot, Cond.initialized RX2, Cond.code yX2_clearSlot cX2_clearSlot 3 none, Cond.fieldLink RX2 9 "HopCredits$Link" "cellAt" "[I", Cond.fieldLink RX2 15 "HopCredits$Link" "updateAt" "[I", Cond.fieldLink RX2 18 "HopCredits$Link" "probesAt" "[I", Cond.methodLink RX2 51 yX1_lay, Cond.instanceMethod yX1_lay, Cond.selects RX1 yX1_lay yX1_lay, Cond.initialized RX1, Cond.code yX1_lay cX1_lay 2 none, Cond.fieldLink RX1 9 "HopCredits$Lane" "sent" "I", Cond.fieldLink RX1 15 "HopCredits$Lane" "gone" "I", Cond.fieldLink RX1 18 "HopCredits$Lane" "known" "I", Cond.fieldLink RX1 21 "HopCredits$Lane" "zone" "I"]
def wsX2_lay_r2 : List Cond := [Cond.fieldLink RX1 24 "HopCredits$Lane" "waited" "I", Cond.fieldLink RX1 27 "HopCredits$Lane" "sinceUpdate" "I", Cond.fieldLink RX1 30 "HopCredits$Lane" "sinceAdapt" "I"]
def wsX2_lay : List Cond := .code yX2_lay cX2_lay 6 none :: ((wsX2_lay_r1 ++ wsX2_lay_r2) ++ wsX20 ++ wsX10)
def wsX3_init_r1 : List Cond := [Cond.methodLink RX3 3 objectInit, Cond.instanceMethod objectInit, Cond.code objectInit ⟨#[0xb1]⟩ 1 none, Cond.classLink RX3 9 RX2, Cond.fieldLink RX3 11 "HopCredits$Net" "links" "[LHopCredits$Link;", Cond.classLink RX3 17 RX0, Cond.fieldLink RX3 19 "HopCredits$Net" "flows" "[LHopCredits$Flow;", Cond.arrayClass .int, Cond.fieldLink RX3 23 "HopCredits$Net" "buffers" "[I", Cond.instantiable RX2 10, Cond.initialized RX2, Cond.instantiable RX0 8, Cond.initialized RX0, Cond.methodLink RX3 27 yX2_init, Cond.instanceMethod yX2_init, Cond.code yX2_init cX2_init 2 none, Cond.methodLink RX2 3 objectInit, Cond.fieldLink RX2 9 "HopCredits$Link" "cellAt" "[I", Cond.fieldLink RX2 15 "HopCredits$Link" "updateAt" "[I", Cond.fieldLink RX2 18 "HopCredits$Link" "probesAt" "[I", Cond.classLink RX2 21 RX1, Cond.fieldLink RX2 23 "HopCredits$Link" "lanes" "[LHopCredits$Lane;", Cond.instantiable RX1 7, Cond.initialized RX1]
def wsX3_init_r2 : List Cond := [Cond.instanceMethod yX1_init, Cond.code yX1_init cX1_init 1 none, Cond.methodLink RX1 3 objectInit, Cond.instanceMethod yX0_init, Cond.code yX0_init cX0_init 1 none, Cond.methodLink RX0 1 objectInit]
def wsX3_init : List Cond := .code yX3_init cX3_init 2 none :: ((wsX3_init_r1 ++ wsX3_init_r2) ++ wsX30 ++ wsX20 ++ wsX00 ++ wsX10)
def wsX3_layRules : List Cond := .code yX3_layRules cX3_layRules 5 none :: ([.fieldLink RX3 53 "HopCredits$Net" "hops" "I", .fieldLink RX3 62 "HopCredits$Net" "circuits" "I", .fieldLink RX3 59 "HopCredits$Net" "reserve" "I", .fieldLink RX3 46 "HopCredits$Net" "adapts" "I", .fieldLink RX3 50 "HopCredits$Net" "probes" "I", .fieldLink RX3 78 "HopCredits$Net" "tick" "I", .fieldLink RX3 81 "HopCredits$Net" "lost" "I", .fieldLink RX3 84 "HopCredits$Net" "probesSent" "I", .fieldLink RX3 23 "HopCredits$Net" "buffers" "[I"] ++ wsX30)
def wsX3_layAlone_r1 : List Cond := [Cond.fieldLink RX3 11 "HopCredits$Net" "links" "[LHopCredits$Link;", Cond.fieldLink RX3 19 "HopCredits$Net" "flows" "[LHopCredits$Flow;", Cond.fieldLink RX3 23 "HopCredits$Net" "buffers" "[I", Cond.methodLink RX3 42 yX3_layRules, Cond.instanceMethod yX3_layRules, Cond.selects RX3 yX3_layRules yX3_layRules, Cond.initialized RX3, Cond.code yX3_layRules cX3_layRules 5 none, Cond.fieldLink RX3 53 "HopCredits$Net" "hops" "I", Cond.fieldLink RX3 62 "HopCredits$Net" "circuits" "I", Cond.fieldLink RX3 59 "HopCredits$Net" "reserve" "I", Cond.fieldLink RX3 46 "HopCredits$Net" "adapts" "I", Cond.fieldLink RX3 50 "HopCredits$Net" "probes" "I", Cond.fieldLink RX3 78 "HopCredits$Net" "tick" "I", Cond.fieldLink RX3 81 "HopCredits$Net" "lost" "I", Cond.fieldLink RX3 84 "HopCredits$Net" "probesSent" "I", Cond.methodLink RX3 69 yX2_lay, Cond.instanceMethod yX2_lay, Cond.selects RX2 yX2_lay yX2_lay, Cond.initialized RX2, Cond.code yX2_lay cX2_lay 6 none, Cond.fieldLink RX2 28 "HopCredits$Link" "delay" "I", Cond.fieldLink RX2 32 "HopCredits$Link" "pool" "I", Cond.fieldLink RX2 35 "HopCredits$Link" "every" "I"]
def wsX3_layAlone_r2 : List Cond := [Cond.fieldLink RX2 38 "HopCredits$Link" "jammed" "I", Cond.fieldLink RX2 41 "HopCredits$Link" "latest" "I", Cond.fieldLink RX2 44 "HopCredits$Link" "sender" "I", Cond.fieldLink RX2 23 "HopCredits$Link" "lanes" "[LHopCredits$Lane;", Cond.methodLink RX2 47 yX2_clearSlot, Cond.instanceMethod yX2_clearSlot, Cond.selects RX2 yX2_clearSlot yX2_clearSlot, Cond.code yX2_clearSlot cX2_clearSlot 3 none, Cond.fieldLink RX2 9 "HopCredits$Link" "cellAt" "[I", Cond.fieldLink RX2 15 "HopCredits$Link" "updateAt" "[I", Cond.fieldLink RX2 18 "HopCredits$Link" "probesAt" "[I", Cond.methodLink RX2 51 yX1_lay, Cond.instanceMethod yX1_lay, Cond.selects RX1 yX1_lay yX1_lay, Cond.initialized RX1, Cond.code yX1_lay cX1_lay 2 none, Cond.fieldLink RX1 9 "HopCredits$Lane" "sent" "I", Cond.fieldLink RX1 15 "HopCredits$Lane" "gone" "I", Cond.fieldLink RX1 18 "HopCredits$Lane" "known" "I", Cond.fieldLink RX1 21 "HopCredits$Lane" "zone" "I", Cond.fieldLink RX1 24 "HopCredits$Lane" "waited" "I", Cond.fieldLink RX1 27 "HopCredits$Lane" "sinceUpdate" "I", Cond.fieldLink RX1 30 "HopCredits$Lane" "sinceAdapt" "I", Cond.methodLink RX3 76 yX0_lay]
def wsX3_layAlone_r3 : List Cond := [Cond.instanceMethod yX0_lay, Cond.selects RX0 yX0_lay yX0_lay, Cond.initialized RX0, Cond.code yX0_lay cX0_lay 4 none, Cond.fieldLink RX0 7 "HopCredits$Flow" "gap" "I", Cond.fieldLink RX0 13 "HopCredits$Flow" "start" "I", Cond.fieldLink RX0 16 "HopCredits$Flow" "takes" "I", Cond.fieldLink RX0 19 "HopCredits$Flow" "came" "I", Cond.fieldLink RX0 22 "HopCredits$Flow" "spilt" "I", Cond.fieldLink RX0 25 "HopCredits$Flow" "delivered" "I", Cond.fieldLink RX0 28 "HopCredits$Flow" "cameNow" "Z", Cond.fieldLink RX0 32 "HopCredits$Flow" "deliveredNow" "Z"]
def wsX3_layAlone : List Cond := .code yX3_layAlone cX3_layAlone 5 none :: ((wsX3_layAlone_r1 ++ (wsX3_layAlone_r2 ++ wsX3_layAlone_r3)) ++ wsX30 ++ wsX20 ++ wsX10 ++ wsX00)
def wsX3_sendUpdate : List Cond := .code yX3_sendUpdate cX3_sendUpdate 3 none :: ([.fieldLink RX3 207 "HopCredits$Link" "jammed" "I", .fieldLink RX3 81 "HopCredits$Net" "lost" "I", .fieldLink RX3 125 "HopCredits$Link" "updateAt" "[I", .fieldLink RX3 78 "HopCredits$Net" "tick" "I", .fieldLink RX3 183 "HopCredits$Link" "delay" "I", .fieldLink RX3 128 "HopCredits$Link" "lanes" "[LHopCredits$Lane;", .fieldLink RX3 198 "HopCredits$Lane" "gone" "I"] ++ wsX20 ++ wsX30 ++ wsX10)
def wsX3_arriveOver_r1 : List Cond := [Cond.fieldLink RX3 11 "HopCredits$Net" "links" "[LHopCredits$Link;", Cond.fieldLink RX3 78 "HopCredits$Net" "tick" "I", Cond.fieldLink RX3 122 "HopCredits$Link" "cellAt" "[I", Cond.fieldLink RX3 23 "HopCredits$Net" "buffers" "[I", Cond.fieldLink RX3 62 "HopCredits$Net" "circuits" "I", Cond.fieldLink RX3 125 "HopCredits$Link" "updateAt" "[I", Cond.fieldLink RX3 128 "HopCredits$Link" "lanes" "[LHopCredits$Lane;", Cond.fieldLink RX3 137 "HopCredits$Link" "probesAt" "[I", Cond.methodLink RX3 132 yX1_hear, Cond.instanceMethod yX1_hear, Cond.selects RX1 yX1_hear yX1_hear, Cond.initialized RX1, Cond.code yX1_hear cX1_hear 2 none, Cond.fieldLink RX1 18 "HopCredits$Lane" "known" "I", Cond.static yX6_reaches, Cond.initialized RX6, Cond.code yX6_reaches cX6_reaches 2 (some .boolean), Cond.methodLink RX3 140 yX3_sendUpdate, Cond.instanceMethod yX3_sendUpdate, Cond.selects RX3 yX3_sendUpdate yX3_sendUpdate, Cond.initialized RX3, Cond.code yX3_sendUpdate cX3_sendUpdate 3 none, Cond.fieldLink RX3 207 "HopCredits$Link" "jammed" "I", Cond.fieldLink RX3 81 "HopCredits$Net" "lost" "I"]
def wsX3_arriveOver_r2 : List Cond := [Cond.fieldLink RX3 183 "HopCredits$Link" "delay" "I", Cond.fieldLink RX3 198 "HopCredits$Lane" "gone" "I", Cond.methodLink RX3 144 yX2_clearSlot, Cond.instanceMethod yX2_clearSlot, Cond.selects RX2 yX2_clearSlot yX2_clearSlot, Cond.initialized RX2, Cond.code yX2_clearSlot cX2_clearSlot 3 none, Cond.fieldLink RX2 9 "HopCredits$Link" "cellAt" "[I", Cond.fieldLink RX2 15 "HopCredits$Link" "updateAt" "[I", Cond.fieldLink RX2 18 "HopCredits$Link" "probesAt" "[I"]
def wsX3_arriveOver : List Cond := .code yX3_arriveOver cX3_arriveOver 9 none :: ((wsX3_arriveOver_r1 ++ wsX3_arriveOver_r2) ++ wsX30 ++ wsX20 ++ wsX10)
def wsX3_come : List Cond := .code yX3_come cX3_come 3 none :: ([.fieldLink RX3 19 "HopCredits$Net" "flows" "[LHopCredits$Flow;", .fieldLink RX3 147 "HopCredits$Flow" "cameNow" "Z", .fieldLink RX3 78 "HopCredits$Net" "tick" "I", .fieldLink RX3 155 "HopCredits$Flow" "came" "I", .fieldLink RX3 23 "HopCredits$Net" "buffers" "[I", .fieldLink RX3 158 "HopCredits$Flow" "spilt" "I", .methodLink RX3 151 yX0_comesIn, .instanceMethod yX0_comesIn, .selects RX0 yX0_comesIn yX0_comesIn, .initialized RX0, .code yX0_comesIn cX0_comesIn 2 (some .boolean), .fieldLink RX0 7 "HopCredits$Flow" "gap" "I", .fieldLink RX0 13 "HopCredits$Flow" "start" "I"] ++ wsX30 ++ wsX00)
def wsX3_goneFrom : List Cond := .code yX3_goneFrom cX3_goneFrom 5 none :: ([.fieldLink RX3 11 "HopCredits$Net" "links" "[LHopCredits$Link;", .fieldLink RX3 128 "HopCredits$Link" "lanes" "[LHopCredits$Lane;", .fieldLink RX3 198 "HopCredits$Lane" "gone" "I", .fieldLink RX3 201 "HopCredits$Lane" "sinceUpdate" "I", .fieldLink RX3 204 "HopCredits$Link" "every" "I", .methodLink RX3 140 yX3_sendUpdate, .instanceMethod yX3_sendUpdate, .selects RX3 yX3_sendUpdate yX3_sendUpdate, .initialized RX3, .code yX3_sendUpdate cX3_sendUpdate 3 none, .fieldLink RX3 207 "HopCredits$Link" "jammed" "I", .fieldLink RX3 81 "HopCredits$Net" "lost" "I", .fieldLink RX3 125 "HopCredits$Link" "updateAt" "[I", .fieldLink RX3 78 "HopCredits$Net" "tick" "I", .fieldLink RX3 183 "HopCredits$Link" "delay" "I"] ++ wsX30 ++ wsX20 ++ wsX10)
def wsX3_take_r1 : List Cond := [Cond.fieldLink RX3 19 "HopCredits$Net" "flows" "[LHopCredits$Flow;", Cond.fieldLink RX3 53 "HopCredits$Net" "hops" "I", Cond.fieldLink RX3 78 "HopCredits$Net" "tick" "I", Cond.fieldLink RX3 23 "HopCredits$Net" "buffers" "[I", Cond.fieldLink RX3 164 "HopCredits$Flow" "deliveredNow" "Z", Cond.fieldLink RX3 167 "HopCredits$Flow" "delivered" "I", Cond.methodLink RX3 161 yX0_takesIn, Cond.instanceMethod yX0_takesIn, Cond.selects RX0 yX0_takesIn yX0_takesIn, Cond.initialized RX0, Cond.code yX0_takesIn cX0_takesIn 2 (some .boolean), Cond.fieldLink RX0 16 "HopCredits$Flow" "takes" "I", Cond.methodLink RX3 170 yX3_goneFrom, Cond.instanceMethod yX3_goneFrom, Cond.selects RX3 yX3_goneFrom yX3_goneFrom, Cond.initialized RX3, Cond.code yX3_goneFrom cX3_goneFrom 5 none, Cond.fieldLink RX3 11 "HopCredits$Net" "links" "[LHopCredits$Link;", Cond.fieldLink RX3 128 "HopCredits$Link" "lanes" "[LHopCredits$Lane;", Cond.fieldLink RX3 198 "HopCredits$Lane" "gone" "I", Cond.fieldLink RX3 201 "HopCredits$Lane" "sinceUpdate" "I", Cond.fieldLink RX3 204 "HopCredits$Link" "every" "I", Cond.methodLink RX3 140 yX3_sendUpdate, Cond.instanceMethod yX3_sendUpdate]
def wsX3_take_r2 : List Cond := [Cond.selects RX3 yX3_sendUpdate yX3_sendUpdate, Cond.code yX3_sendUpdate cX3_sendUpdate 3 none, Cond.fieldLink RX3 207 "HopCredits$Link" "jammed" "I", Cond.fieldLink RX3 81 "HopCredits$Net" "lost" "I", Cond.fieldLink RX3 125 "HopCredits$Link" "updateAt" "[I", Cond.fieldLink RX3 183 "HopCredits$Link" "delay" "I"]
def wsX3_take : List Cond := .code yX3_take cX3_take 4 none :: ((wsX3_take_r1 ++ wsX3_take_r2) ++ wsX30 ++ wsX00 ++ wsX20 ++ wsX10)
def wsX3_nextSender : List Cond := .code yX3_nextSender cX3_nextSender 6 (some .int) :: ([.fieldLink RX3 11 "HopCredits$Net" "links" "[LHopCredits$Link;", .fieldLink RX3 62 "HopCredits$Net" "circuits" "I", .fieldLink RX3 180 "HopCredits$Link" "latest" "I", .fieldLink RX3 128 "HopCredits$Link" "lanes" "[LHopCredits$Lane;", .fieldLink RX3 23 "HopCredits$Net" "buffers" "[I", .fieldLink RX3 195 "HopCredits$Lane" "zone" "I", .methodLink RX3 192 yX1_out, .instanceMethod yX1_out, .selects RX1 yX1_out yX1_out, .initialized RX1, .code yX1_out cX1_out 1 (some .int), .fieldLink RX1 9 "HopCredits$Lane" "sent" "I", .fieldLink RX1 18 "HopCredits$Lane" "known" "I"] ++ wsX30 ++ wsX20 ++ wsX10)
def wsX3_sendOver_r1 : List Cond := [Cond.fieldLink RX3 11 "HopCredits$Net" "links" "[LHopCredits$Link;", Cond.fieldLink RX3 177 "HopCredits$Link" "sender" "I", Cond.fieldLink RX3 180 "HopCredits$Link" "latest" "I", Cond.fieldLink RX3 122 "HopCredits$Link" "cellAt" "[I", Cond.fieldLink RX3 78 "HopCredits$Net" "tick" "I", Cond.fieldLink RX3 183 "HopCredits$Link" "delay" "I", Cond.fieldLink RX3 23 "HopCredits$Net" "buffers" "[I", Cond.fieldLink RX3 128 "HopCredits$Link" "lanes" "[LHopCredits$Lane;", Cond.fieldLink RX3 186 "HopCredits$Lane" "sent" "I", Cond.fieldLink RX3 189 "HopCredits$Lane" "sinceAdapt" "I", Cond.methodLink RX3 174 yX3_nextSender, Cond.instanceMethod yX3_nextSender, Cond.selects RX3 yX3_nextSender yX3_nextSender, Cond.initialized RX3, Cond.code yX3_nextSender cX3_nextSender 6 (some .int), Cond.fieldLink RX3 62 "HopCredits$Net" "circuits" "I", Cond.fieldLink RX3 195 "HopCredits$Lane" "zone" "I", Cond.methodLink RX3 192 yX1_out, Cond.instanceMethod yX1_out, Cond.selects RX1 yX1_out yX1_out, Cond.initialized RX1, Cond.code yX1_out cX1_out 1 (some .int), Cond.fieldLink RX1 9 "HopCredits$Lane" "sent" "I", Cond.fieldLink RX1 18 "HopCredits$Lane" "known" "I"]
def wsX3_sendOver_r2 : List Cond := [Cond.methodLink RX3 170 yX3_goneFrom, Cond.instanceMethod yX3_goneFrom, Cond.selects RX3 yX3_goneFrom yX3_goneFrom, Cond.code yX3_goneFrom cX3_goneFrom 5 none, Cond.fieldLink RX3 198 "HopCredits$Lane" "gone" "I", Cond.fieldLink RX3 201 "HopCredits$Lane" "sinceUpdate" "I", Cond.fieldLink RX3 204 "HopCredits$Link" "every" "I", Cond.methodLink RX3 140 yX3_sendUpdate, Cond.instanceMethod yX3_sendUpdate, Cond.selects RX3 yX3_sendUpdate yX3_sendUpdate, Cond.code yX3_sendUpdate cX3_sendUpdate 3 none, Cond.fieldLink RX3 207 "HopCredits$Link" "jammed" "I", Cond.fieldLink RX3 81 "HopCredits$Net" "lost" "I", Cond.fieldLink RX3 125 "HopCredits$Link" "updateAt" "[I"]
def wsX3_sendOver : List Cond := .code yX3_sendOver cX3_sendOver 5 none :: ((wsX3_sendOver_r1 ++ wsX3_sendOver_r2) ++ wsX30 ++ wsX20 ++ wsX10)
def wsX3_lacksCredit : List Cond := .code yX3_lacksCredit cX3_lacksCredit 3 (some .boolean) :: ([.fieldLink RX3 23 "HopCredits$Net" "buffers" "[I", .fieldLink RX3 11 "HopCredits$Net" "links" "[LHopCredits$Link;", .fieldLink RX3 128 "HopCredits$Link" "lanes" "[LHopCredits$Lane;", .fieldLink RX3 195 "HopCredits$Lane" "zone" "I", .methodLink RX3 192 yX1_out, .instanceMethod yX1_out, .selects RX1 yX1_out yX1_out, .initialized RX1, .code yX1_out cX1_out 1 (some .int), .fieldLink RX1 9 "HopCredits$Lane" "sent" "I", .fieldLink RX1 18 "HopCredits$Lane" "known" "I"] ++ wsX30 ++ wsX20 ++ wsX10)
def wsX3_waitAt_r1 : List Cond := [Cond.fieldLink RX3 62 "HopCredits$Net" "circuits" "I", Cond.fieldLink RX3 11 "HopCredits$Net" "links" "[LHopCredits$Link;", Cond.fieldLink RX3 128 "HopCredits$Link" "lanes" "[LHopCredits$Lane;", Cond.fieldLink RX3 210 "HopCredits$Lane" "waited" "I", Cond.fieldLink RX3 50 "HopCredits$Net" "probes" "I", Cond.methodLink RX3 213 yX3_lacksCredit, Cond.instanceMethod yX3_lacksCredit, Cond.selects RX3 yX3_lacksCredit yX3_lacksCredit, Cond.initialized RX3, Cond.code yX3_lacksCredit cX3_lacksCredit 3 (some .boolean), Cond.fieldLink RX3 23 "HopCredits$Net" "buffers" "[I", Cond.fieldLink RX3 195 "HopCredits$Lane" "zone" "I", Cond.methodLink RX3 192 yX1_out, Cond.instanceMethod yX1_out, Cond.selects RX1 yX1_out yX1_out, Cond.initialized RX1, Cond.code yX1_out cX1_out 1 (some .int), Cond.fieldLink RX1 9 "HopCredits$Lane" "sent" "I", Cond.fieldLink RX1 18 "HopCredits$Lane" "known" "I", Cond.methodLink RX3 217 yX3_sendProbe, Cond.instanceMethod yX3_sendProbe, Cond.selects RX3 yX3_sendProbe yX3_sendProbe, Cond.code yX3_sendProbe cX3_sendProbe 3 none, Cond.fieldLink RX3 137 "HopCredits$Link" "probesAt" "[I"]
def wsX3_waitAt_r2 : List Cond := [Cond.fieldLink RX3 78 "HopCredits$Net" "tick" "I", Cond.fieldLink RX3 183 "HopCredits$Link" "delay" "I", Cond.fieldLink RX3 84 "HopCredits$Net" "probesSent" "I"]
def wsX3_waitAt : List Cond := .code yX3_waitAt cX3_waitAt 4 none :: ((wsX3_waitAt_r1 ++ wsX3_waitAt_r2) ++ wsX30 ++ wsX20 ++ wsX10)
def wsX3_step_r1 : List Cond := [Cond.fieldLink RX3 53 "HopCredits$Net" "hops" "I", Cond.fieldLink RX3 62 "HopCredits$Net" "circuits" "I", Cond.fieldLink RX3 46 "HopCredits$Net" "adapts" "I", Cond.fieldLink RX3 78 "HopCredits$Net" "tick" "I", Cond.fieldLink RX3 11 "HopCredits$Net" "links" "[LHopCredits$Link;", Cond.methodLink RX3 103 yX3_arriveOver, Cond.instanceMethod yX3_arriveOver, Cond.selects RX3 yX3_arriveOver yX3_arriveOver, Cond.initialized RX3, Cond.code yX3_arriveOver cX3_arriveOver 9 none, Cond.fieldLink RX3 122 "HopCredits$Link" "cellAt" "[I", Cond.fieldLink RX3 23 "HopCredits$Net" "buffers" "[I", Cond.fieldLink RX3 125 "HopCredits$Link" "updateAt" "[I", Cond.fieldLink RX3 128 "HopCredits$Link" "lanes" "[LHopCredits$Lane;", Cond.fieldLink RX3 137 "HopCredits$Link" "probesAt" "[I", Cond.methodLink RX3 132 yX1_hear, Cond.instanceMethod yX1_hear, Cond.selects RX1 yX1_hear yX1_hear, Cond.initialized RX1, Cond.code yX1_hear cX1_hear 2 none, Cond.fieldLink RX1 18 "HopCredits$Lane" "known" "I", Cond.static yX6_reaches, Cond.initialized RX6, Cond.code yX6_reaches cX6_reaches 2 (some .boolean)]
def wsX3_step_r2 : List Cond := [Cond.methodLink RX3 140 yX3_sendUpdate, Cond.instanceMethod yX3_sendUpdate, Cond.selects RX3 yX3_sendUpdate yX3_sendUpdate, Cond.code yX3_sendUpdate cX3_sendUpdate 3 none, Cond.fieldLink RX3 207 "HopCredits$Link" "jammed" "I", Cond.fieldLink RX3 81 "HopCredits$Net" "lost" "I", Cond.fieldLink RX3 183 "HopCredits$Link" "delay" "I", Cond.fieldLink RX3 198 "HopCredits$Lane" "gone" "I", Cond.methodLink RX3 144 yX2_clearSlot, Cond.instanceMethod yX2_clearSlot, Cond.selects RX2 yX2_clearSlot yX2_clearSlot, Cond.initialized RX2, Cond.code yX2_clearSlot cX2_clearSlot 3 none, Cond.fieldLink RX2 9 "HopCredits$Link" "cellAt" "[I", Cond.fieldLink RX2 15 "HopCredits$Link" "updateAt" "[I", Cond.fieldLink RX2 18 "HopCredits$Link" "probesAt" "[I", Cond.methodLink RX3 107 yX3_come, Cond.instanceMethod yX3_come, Cond.selects RX3 yX3_come yX3_come, Cond.code yX3_come cX3_come 3 none, Cond.fieldLink RX3 19 "HopCredits$Net" "flows" "[LHopCredits$Flow;", Cond.fieldLink RX3 147 "HopCredits$Flow" "cameNow" "Z", Cond.fieldLink RX3 155 "HopCredits$Flow" "came" "I", Cond.fieldLink RX3 158 "HopCredits$Flow" "spilt" "I"]
def wsX3_step_r3 : List Cond := [Cond.methodLink RX3 151 yX0_comesIn, Cond.instanceMethod yX0_comesIn, Cond.selects RX0 yX0_comesIn yX0_comesIn, Cond.initialized RX0, Cond.code yX0_comesIn cX0_comesIn 2 (some .boolean), Cond.fieldLink RX0 7 "HopCredits$Flow" "gap" "I", Cond.fieldLink RX0 13 "HopCredits$Flow" "start" "I", Cond.methodLink RX3 110 yX3_take, Cond.instanceMethod yX3_take, Cond.selects RX3 yX3_take yX3_take, Cond.code yX3_take cX3_take 4 none, Cond.fieldLink RX3 164 "HopCredits$Flow" "deliveredNow" "Z", Cond.fieldLink RX3 167 "HopCredits$Flow" "delivered" "I", Cond.methodLink RX3 161 yX0_takesIn, Cond.instanceMethod yX0_takesIn, Cond.selects RX0 yX0_takesIn yX0_takesIn, Cond.code yX0_takesIn cX0_takesIn 2 (some .boolean), Cond.fieldLink RX0 16 "HopCredits$Flow" "takes" "I", Cond.methodLink RX3 170 yX3_goneFrom, Cond.instanceMethod yX3_goneFrom, Cond.selects RX3 yX3_goneFrom yX3_goneFrom, Cond.code yX3_goneFrom cX3_goneFrom 5 none, Cond.fieldLink RX3 201 "HopCredits$Lane" "sinceUpdate" "I", Cond.fieldLink RX3 204 "HopCredits$Link" "every" "I"]
def wsX3_step_r4 : List Cond := [Cond.methodLink RX3 113 yX3_sendOver, Cond.instanceMethod yX3_sendOver, Cond.selects RX3 yX3_sendOver yX3_sendOver, Cond.code yX3_sendOver cX3_sendOver 5 none, Cond.fieldLink RX3 177 "HopCredits$Link" "sender" "I", Cond.fieldLink RX3 180 "HopCredits$Link" "latest" "I", Cond.fieldLink RX3 186 "HopCredits$Lane" "sent" "I", Cond.fieldLink RX3 189 "HopCredits$Lane" "sinceAdapt" "I", Cond.methodLink RX3 174 yX3_nextSender, Cond.instanceMethod yX3_nextSender, Cond.selects RX3 yX3_nextSender yX3_nextSender, Cond.code yX3_nextSender cX3_nextSender 6 (some .int), Cond.fieldLink RX3 195 "HopCredits$Lane" "zone" "I", Cond.methodLink RX3 192 yX1_out, Cond.instanceMethod yX1_out, Cond.selects RX1 yX1_out yX1_out, Cond.code yX1_out cX1_out 1 (some .int), Cond.fieldLink RX1 9 "HopCredits$Lane" "sent" "I", Cond.methodLink RX3 116 yX3_waitAt, Cond.instanceMethod yX3_waitAt, Cond.selects RX3 yX3_waitAt yX3_waitAt, Cond.code yX3_waitAt cX3_waitAt 4 none, Cond.fieldLink RX3 210 "HopCredits$Lane" "waited" "I", Cond.fieldLink RX3 50 "HopCredits$Net" "probes" "I"]
def wsX3_step_r5 : List Cond := [Cond.methodLink RX3 213 yX3_lacksCredit, Cond.instanceMethod yX3_lacksCredit, Cond.selects RX3 yX3_lacksCredit yX3_lacksCredit, Cond.code yX3_lacksCredit cX3_lacksCredit 3 (some .boolean), Cond.methodLink RX3 217 yX3_sendProbe, Cond.instanceMethod yX3_sendProbe, Cond.selects RX3 yX3_sendProbe yX3_sendProbe, Cond.code yX3_sendProbe cX3_sendProbe 3 none, Cond.fieldLink RX3 84 "HopCredits$Net" "probesSent" "I", Cond.methodLink RX3 119 yX3_adapt, Cond.instanceMethod yX3_adapt, Cond.selects RX3 yX3_adapt yX3_adapt, Cond.code yX3_adapt cX3_adapt 5 none, Cond.methodLink RX3 224 Lib.Math.min.name, Cond.static Lib.Math.min.name, Cond.initialized "java/lang/Math", Cond.code Lib.Math.min.name Lib.Math.min.code 2 (some .int), Cond.methodLink RX3 64 Lib.Math.max.name, Cond.static Lib.Math.max.name, Cond.code Lib.Math.max.name Lib.Math.max.code 2 (some .int), Cond.methodLink RX3 220 yX3_aimOf, Cond.instanceMethod yX3_aimOf, Cond.selects RX3 yX3_aimOf yX3_aimOf, Cond.code yX3_aimOf cX3_aimOf 5 (some .int)]
def wsX3_step_r6 : List Cond := [Cond.fieldLink RX3 230 "HopCredits$Link" "pool" "I", Cond.fieldLink RX3 59 "HopCredits$Net" "reserve" "I", Cond.methodLink RX3 227 yX2_roomFor, Cond.instanceMethod yX2_roomFor, Cond.selects RX2 yX2_roomFor yX2_roomFor, Cond.code yX2_roomFor cX2_roomFor 5 (some .int), Cond.fieldLink RX2 32 "HopCredits$Link" "pool" "I", Cond.fieldLink RX2 23 "HopCredits$Link" "lanes" "[LHopCredits$Lane;", Cond.fieldLink RX2 64 "HopCredits$Lane" "zone" "I", Cond.methodLink RX2 71 Lib.Math.max.name, Cond.methodLink RX2 67 yX1_out]
def wsX3_step : List Cond := .code yX3_step cX3_step 2 none :: ((wsX3_step_r1 ++ (wsX3_step_r2 ++ (wsX3_step_r3 ++ (wsX3_step_r4 ++ (wsX3_step_r5 ++ wsX3_step_r6))))) ++ wsX30 ++ wsX20 ++ wsX10 ++ wsX00)
def wsX3_steps_r1 : List Cond := [Cond.methodLink RX3 100 yX3_step, Cond.instanceMethod yX3_step, Cond.selects RX3 yX3_step yX3_step, Cond.initialized RX3, Cond.code yX3_step cX3_step 2 none, Cond.fieldLink RX3 53 "HopCredits$Net" "hops" "I", Cond.fieldLink RX3 62 "HopCredits$Net" "circuits" "I", Cond.fieldLink RX3 46 "HopCredits$Net" "adapts" "I", Cond.fieldLink RX3 78 "HopCredits$Net" "tick" "I", Cond.fieldLink RX3 11 "HopCredits$Net" "links" "[LHopCredits$Link;", Cond.methodLink RX3 103 yX3_arriveOver, Cond.instanceMethod yX3_arriveOver, Cond.selects RX3 yX3_arriveOver yX3_arriveOver, Cond.code yX3_arriveOver cX3_arriveOver 9 none, Cond.fieldLink RX3 122 "HopCredits$Link" "cellAt" "[I", Cond.fieldLink RX3 23 "HopCredits$Net" "buffers" "[I", Cond.fieldLink RX3 125 "HopCredits$Link" "updateAt" "[I", Cond.fieldLink RX3 128 "HopCredits$Link" "lanes" "[LHopCredits$Lane;", Cond.fieldLink RX3 137 "HopCredits$Link" "probesAt" "[I", Cond.methodLink RX3 132 yX1_hear, Cond.instanceMethod yX1_hear, Cond.selects RX1 yX1_hear yX1_hear, Cond.initialized RX1, Cond.code yX1_hear cX1_hear 2 none]
def wsX3_steps_r2 : List Cond := [Cond.fieldLink RX1 18 "HopCredits$Lane" "known" "I", Cond.static yX6_reaches, Cond.initialized RX6, Cond.code yX6_reaches cX6_reaches 2 (some .boolean), Cond.methodLink RX3 140 yX3_sendUpdate, Cond.instanceMethod yX3_sendUpdate, Cond.selects RX3 yX3_sendUpdate yX3_sendUpdate, Cond.code yX3_sendUpdate cX3_sendUpdate 3 none, Cond.fieldLink RX3 207 "HopCredits$Link" "jammed" "I", Cond.fieldLink RX3 81 "HopCredits$Net" "lost" "I", Cond.fieldLink RX3 183 "HopCredits$Link" "delay" "I", Cond.fieldLink RX3 198 "HopCredits$Lane" "gone" "I", Cond.methodLink RX3 144 yX2_clearSlot, Cond.instanceMethod yX2_clearSlot, Cond.selects RX2 yX2_clearSlot yX2_clearSlot, Cond.initialized RX2, Cond.code yX2_clearSlot cX2_clearSlot 3 none, Cond.fieldLink RX2 9 "HopCredits$Link" "cellAt" "[I", Cond.fieldLink RX2 15 "HopCredits$Link" "updateAt" "[I", Cond.fieldLink RX2 18 "HopCredits$Link" "probesAt" "[I", Cond.methodLink RX3 107 yX3_come, Cond.instanceMethod yX3_come, Cond.selects RX3 yX3_come yX3_come, Cond.code yX3_come cX3_come 3 none]
def wsX3_steps_r3 : List Cond := [Cond.fieldLink RX3 19 "HopCredits$Net" "flows" "[LHopCredits$Flow;", Cond.fieldLink RX3 147 "HopCredits$Flow" "cameNow" "Z", Cond.fieldLink RX3 155 "HopCredits$Flow" "came" "I", Cond.fieldLink RX3 158 "HopCredits$Flow" "spilt" "I", Cond.methodLink RX3 151 yX0_comesIn, Cond.instanceMethod yX0_comesIn, Cond.selects RX0 yX0_comesIn yX0_comesIn, Cond.initialized RX0, Cond.code yX0_comesIn cX0_comesIn 2 (some .boolean), Cond.fieldLink RX0 7 "HopCredits$Flow" "gap" "I", Cond.fieldLink RX0 13 "HopCredits$Flow" "start" "I", Cond.methodLink RX3 110 yX3_take, Cond.instanceMethod yX3_take, Cond.selects RX3 yX3_take yX3_take, Cond.code yX3_take cX3_take 4 none, Cond.fieldLink RX3 164 "HopCredits$Flow" "deliveredNow" "Z", Cond.fieldLink RX3 167 "HopCredits$Flow" "delivered" "I", Cond.methodLink RX3 161 yX0_takesIn, Cond.instanceMethod yX0_takesIn, Cond.selects RX0 yX0_takesIn yX0_takesIn, Cond.code yX0_takesIn cX0_takesIn 2 (some .boolean), Cond.fieldLink RX0 16 "HopCredits$Flow" "takes" "I", Cond.methodLink RX3 170 yX3_goneFrom, Cond.instanceMethod yX3_goneFrom]
def wsX3_steps_r4 : List Cond := [Cond.selects RX3 yX3_goneFrom yX3_goneFrom, Cond.code yX3_goneFrom cX3_goneFrom 5 none, Cond.fieldLink RX3 201 "HopCredits$Lane" "sinceUpdate" "I", Cond.fieldLink RX3 204 "HopCredits$Link" "every" "I", Cond.methodLink RX3 113 yX3_sendOver, Cond.instanceMethod yX3_sendOver, Cond.selects RX3 yX3_sendOver yX3_sendOver, Cond.code yX3_sendOver cX3_sendOver 5 none, Cond.fieldLink RX3 177 "HopCredits$Link" "sender" "I", Cond.fieldLink RX3 180 "HopCredits$Link" "latest" "I", Cond.fieldLink RX3 186 "HopCredits$Lane" "sent" "I", Cond.fieldLink RX3 189 "HopCredits$Lane" "sinceAdapt" "I", Cond.methodLink RX3 174 yX3_nextSender, Cond.instanceMethod yX3_nextSender, Cond.selects RX3 yX3_nextSender yX3_nextSender, Cond.code yX3_nextSender cX3_nextSender 6 (some .int), Cond.fieldLink RX3 195 "HopCredits$Lane" "zone" "I", Cond.methodLink RX3 192 yX1_out, Cond.instanceMethod yX1_out, Cond.selects RX1 yX1_out yX1_out, Cond.code yX1_out cX1_out 1 (some .int), Cond.fieldLink RX1 9 "HopCredits$Lane" "sent" "I", Cond.methodLink RX3 116 yX3_waitAt, Cond.instanceMethod yX3_waitAt]
def wsX3_steps_r5 : List Cond := [Cond.selects RX3 yX3_waitAt yX3_waitAt, Cond.code yX3_waitAt cX3_waitAt 4 none, Cond.fieldLink RX3 210 "HopCredits$Lane" "waited" "I", Cond.fieldLink RX3 50 "HopCredits$Net" "probes" "I", Cond.methodLink RX3 213 yX3_lacksCredit, Cond.instanceMethod yX3_lacksCredit, Cond.selects RX3 yX3_lacksCredit yX3_lacksCredit, Cond.code yX3_lacksCredit cX3_lacksCredit 3 (some .boolean), Cond.methodLink RX3 217 yX3_sendProbe, Cond.instanceMethod yX3_sendProbe, Cond.selects RX3 yX3_sendProbe yX3_sendProbe, Cond.code yX3_sendProbe cX3_sendProbe 3 none, Cond.fieldLink RX3 84 "HopCredits$Net" "probesSent" "I", Cond.methodLink RX3 119 yX3_adapt, Cond.instanceMethod yX3_adapt, Cond.selects RX3 yX3_adapt yX3_adapt, Cond.code yX3_adapt cX3_adapt 5 none, Cond.methodLink RX3 224 Lib.Math.min.name, Cond.static Lib.Math.min.name, Cond.initialized "java/lang/Math", Cond.code Lib.Math.min.name Lib.Math.min.code 2 (some .int), Cond.methodLink RX3 64 Lib.Math.max.name, Cond.static Lib.Math.max.name, Cond.code Lib.Math.max.name Lib.Math.max.code 2 (some .int)]
def wsX3_steps_r6 : List Cond := [Cond.methodLink RX3 220 yX3_aimOf, Cond.instanceMethod yX3_aimOf, Cond.selects RX3 yX3_aimOf yX3_aimOf, Cond.code yX3_aimOf cX3_aimOf 5 (some .int), Cond.fieldLink RX3 230 "HopCredits$Link" "pool" "I", Cond.fieldLink RX3 59 "HopCredits$Net" "reserve" "I", Cond.methodLink RX3 227 yX2_roomFor, Cond.instanceMethod yX2_roomFor, Cond.selects RX2 yX2_roomFor yX2_roomFor, Cond.code yX2_roomFor cX2_roomFor 5 (some .int), Cond.fieldLink RX2 32 "HopCredits$Link" "pool" "I", Cond.fieldLink RX2 23 "HopCredits$Link" "lanes" "[LHopCredits$Lane;", Cond.fieldLink RX2 64 "HopCredits$Lane" "zone" "I", Cond.methodLink RX2 71 Lib.Math.max.name, Cond.methodLink RX2 67 yX1_out]
def wsX3_steps : List Cond := .code yX3_steps cX3_steps 3 none :: ((wsX3_steps_r1 ++ (wsX3_steps_r2 ++ (wsX3_steps_r3 ++ (wsX3_steps_r4 ++ (wsX3_steps_r5 ++ wsX3_steps_r6))))) ++ wsX30 ++ wsX20 ++ wsX10 ++ wsX00)
def wsX4_init : List Cond := .code yX4_init cX4_init 1 none :: ([.methodLink RX4 3 objectInit, .instanceMethod objectInit, .code objectInit ⟨#[0xb1]⟩ 1 none, .arrayClass .int, .fieldLink RX4 9 "HopCredits$Reading" "text" "[I", .fieldLink RX4 15 "HopCredits$Reading" "values" "[I"] ++ wsX40)
def wsX4_kindOf : List Cond := .code yX4_kindOf cX4_kindOf 1 (some .int) :: ([])
def wsX4_setUsual : List Cond := .code yX4_setUsual cX4_setUsual 3 none :: ([.fieldLink RX4 15 "HopCredits$Reading" "values" "[I", .fieldLink RX4 47 "HopCredits$Reading" "USUAL" "[I", .methodLink RX4 50 yX4_kindOf, .static yX4_kindOf, .initialized RX4, .code yX4_kindOf cX4_kindOf 1 (some .int)] ++ wsX40)
def wsX4_passBlanks : List Cond := .code yX4_passBlanks cX4_passBlanks 1 none :: ([.fieldLink RX4 28 "HopCredits$Reading" "at" "I", .fieldLink RX4 24 "HopCredits$Reading" "length" "I", .fieldLink RX4 9 "HopCredits$Reading" "text" "[I"] ++ wsX40)
def wsX4_readHead : List Cond := .code yX4_readHead cX4_readHead 3 (some .int) :: ([.fieldLink RX4 28 "HopCredits$Reading" "at" "I", .fieldLink RX4 24 "HopCredits$Reading" "length" "I", .fieldLink RX4 9 "HopCredits$Reading" "text" "[I", .fieldLink RX4 31 "HopCredits$Reading" "fault" "I", .methodLink RX4 58 yX4_passBlanks, .instanceMethod yX4_passBlanks, .selects RX4 yX4_passBlanks yX4_passBlanks, .initialized RX4, .code yX4_passBlanks cX4_passBlanks 1 none, .methodLink RX4 68 yX4_clauseOf, .instanceMethod yX4_clauseOf, .selects RX4 yX4_clauseOf yX4_clauseOf, .code yX4_clauseOf cX4_clauseOf 3 (some .int), .fieldLink RX4 34 "HopCredits$Reading" "hopsTold" "I", .fieldLink RX4 37 "HopCredits$Reading" "circuitsTold" "I"] ++ wsX40)
def wsX6_outside : List Cond := .code yX6_outside cX6_outside 3 (some .boolean) :: ([])
def wsX4_readClause_r1 : List Cond := [Cond.fieldLink RX4 28 "HopCredits$Reading" "at" "I", Cond.fieldLink RX4 24 "HopCredits$Reading" "length" "I", Cond.fieldLink RX4 9 "HopCredits$Reading" "text" "[I", Cond.fieldLink RX4 31 "HopCredits$Reading" "fault" "I", Cond.methodLink RX4 54 yX4_readHead, Cond.instanceMethod yX4_readHead, Cond.selects RX4 yX4_readHead yX4_readHead, Cond.initialized RX4, Cond.code yX4_readHead cX4_readHead 3 (some .int), Cond.methodLink RX4 58 yX4_passBlanks, Cond.instanceMethod yX4_passBlanks, Cond.selects RX4 yX4_passBlanks yX4_passBlanks, Cond.code yX4_passBlanks cX4_passBlanks 1 none, Cond.methodLink RX4 68 yX4_clauseOf, Cond.instanceMethod yX4_clauseOf, Cond.selects RX4 yX4_clauseOf yX4_clauseOf, Cond.code yX4_clauseOf cX4_clauseOf 3 (some .int), Cond.fieldLink RX4 34 "HopCredits$Reading" "hopsTold" "I", Cond.fieldLink RX4 37 "HopCredits$Reading" "circuitsTold" "I", Cond.methodLink RX4 50 yX4_kindOf, Cond.static yX4_kindOf, Cond.code yX4_kindOf cX4_kindOf 1 (some .int), Cond.methodLink RX4 61 yX4_itemOf, Cond.static yX4_itemOf]
def wsX4_readClause_r2 : List Cond := [Cond.code yX4_itemOf cX4_itemOf 3 (some .int), Cond.methodLink RX4 74 yJ0_charAt_5068e, Cond.instanceMethod yJ0_charAt_5068e, Cond.selects RJ0 yJ0_charAt_5068e yJ0_charAt_5068e, Cond.initialized RJ0, Cond.code yJ0_charAt_5068e cJ0_charAt_5068e 2 (some .char), Cond.fieldLink RJ0 9 "java/lang/String" "value" "[B", Cond.methodLink RJ0 492 yJ0_isLatin1_aae02, Cond.instanceMethod yJ0_isLatin1_aae02, Cond.selects RJ0 yJ0_isLatin1_aae02 yJ0_isLatin1_aae02, Cond.code yJ0_isLatin1_aae02 cJ0_isLatin1_aae02 1 (some .boolean), Cond.fieldLink RJ0 38 "java/lang/String" "COMPACT_STRINGS" "Z", Cond.fieldLink RJ0 15 "java/lang/String" "coder" "B", Cond.methodLink RJ0 495 yJ1_charAt_3b067, Cond.static yJ1_charAt_3b067, Cond.initialized RJ1, Cond.code yJ1_charAt_3b067 cJ1_charAt_3b067 2 (some .char), Cond.methodLink RJ1 9 yJ0_checkIndex_df160, Cond.static yJ0_checkIndex_df160, Cond.code yJ0_checkIndex_df160 cJ0_checkIndex_df160 2 none, Cond.fieldLink RJ0 1053 "jdk/internal/util/Preconditions" "SIOOBE_FORMATTER" "Ljava/util/function/BiFunction;", Cond.methodLink RJ0 1059 yJ3_checkIndex_8e157, Cond.static yJ3_checkIndex_8e157, Cond.initialized RJ3]
def wsX4_readClause_r3 : List Cond := [Cond.code yJ3_checkIndex_8e157 cJ3_checkIndex_8e157 3 (some .int), Cond.methodLink RJ0 498 yJ2_charAt_3b067, Cond.static yJ2_charAt_3b067, Cond.initialized RJ2, Cond.code yJ2_charAt_3b067 cJ2_charAt_3b067 2 (some .char), Cond.methodLink RJ2 67 yJ2_checkIndex_2214a, Cond.static yJ2_checkIndex_2214a, Cond.code yJ2_checkIndex_2214a cJ2_checkIndex_2214a 2 none, Cond.methodLink RJ2 48 yJ2_length_9d52b, Cond.static yJ2_length_9d52b, Cond.code yJ2_length_9d52b cJ2_length_9d52b 1 (some .int), Cond.methodLink RJ2 414 yJ0_checkIndex_df160, Cond.methodLink RJ2 71 yJ2_getChar_3b067, Cond.static yJ2_getChar_3b067, Cond.code yJ2_getChar_3b067 cJ2_getChar_3b067 2 (some .char), Cond.fieldLink RJ2 44 "java/lang/StringUTF16" "$assertionsDisabled" "Z", Cond.fieldLink RJ2 59 "java/lang/StringUTF16" "HI_BYTE_SHIFT" "I", Cond.fieldLink RJ2 63 "java/lang/StringUTF16" "LO_BYTE_SHIFT" "I", Cond.methodLink RX4 64 yX4_readNumber, Cond.instanceMethod yX4_readNumber, Cond.selects RX4 yX4_readNumber yX4_readNumber, Cond.code yX4_readNumber cX4_readNumber 6 none, Cond.fieldLink RX4 84 "HopCredits$Reading" "LOWS" "[I", Cond.fieldLink RX4 87 "HopCredits$Reading" "HIGHS" "[I"]
def wsX4_readClause_r4 : List Cond := [Cond.fieldLink RX4 15 "HopCredits$Reading" "values" "[I", Cond.methodLink RX4 80 yX4_isDigitHere, Cond.instanceMethod yX4_isDigitHere, Cond.selects RX4 yX4_isDigitHere yX4_isDigitHere, Cond.code yX4_isDigitHere cX4_isDigitHere 1 (some .boolean), Cond.static yX6_outside, Cond.initialized RX6, Cond.code yX6_outside cX6_outside 3 (some .boolean)]
def wsX4_readClause : List Cond := .code yX4_readClause cX4_readClause 6 none :: ((wsX4_readClause_r1 ++ (wsX4_readClause_r2 ++ (wsX4_readClause_r3 ++ wsX4_readClause_r4))) ++ wsX40)
def wsX4_faultOf_r1 : List Cond := [Cond.fieldLink RX4 9 "HopCredits$Reading" "text" "[I", Cond.methodLink RX4 18 Lib.Math.min.name, Cond.static Lib.Math.min.name, Cond.initialized "java/lang/Math", Cond.code Lib.Math.min.name Lib.Math.min.code 2 (some .int), Cond.fieldLink RX4 24 "HopCredits$Reading" "length" "I", Cond.fieldLink RX4 28 "HopCredits$Reading" "at" "I", Cond.fieldLink RX4 31 "HopCredits$Reading" "fault" "I", Cond.fieldLink RX4 34 "HopCredits$Reading" "hopsTold" "I", Cond.fieldLink RX4 37 "HopCredits$Reading" "circuitsTold" "I", Cond.methodLink RX4 40 yX4_setUsual, Cond.instanceMethod yX4_setUsual, Cond.selects RX4 yX4_setUsual yX4_setUsual, Cond.initialized RX4, Cond.code yX4_setUsual cX4_setUsual 3 none, Cond.fieldLink RX4 15 "HopCredits$Reading" "values" "[I", Cond.fieldLink RX4 47 "HopCredits$Reading" "USUAL" "[I", Cond.methodLink RX4 50 yX4_kindOf, Cond.static yX4_kindOf, Cond.code yX4_kindOf cX4_kindOf 1 (some .int), Cond.methodLink RX4 43 yX4_readClause, Cond.instanceMethod yX4_readClause, Cond.selects RX4 yX4_readClause yX4_readClause, Cond.code yX4_readClause cX4_readClause 6 none]
def wsX4_faultOf_r2 : List Cond := [Cond.methodLink RX4 54 yX4_readHead, Cond.instanceMethod yX4_readHead, Cond.selects RX4 yX4_readHead yX4_readHead, Cond.code yX4_readHead cX4_readHead 3 (some .int), Cond.methodLink RX4 58 yX4_passBlanks, Cond.instanceMethod yX4_passBlanks, Cond.selects RX4 yX4_passBlanks yX4_passBlanks, Cond.code yX4_passBlanks cX4_passBlanks 1 none, Cond.methodLink RX4 68 yX4_clauseOf, Cond.instanceMethod yX4_clauseOf, Cond.selects RX4 yX4_clauseOf yX4_clauseOf, Cond.code yX4_clauseOf cX4_clauseOf 3 (some .int), Cond.methodLink RX4 61 yX4_itemOf, Cond.static yX4_itemOf, Cond.code yX4_itemOf cX4_itemOf 3 (some .int), Cond.methodLink RX4 74 yJ0_charAt_5068e, Cond.instanceMethod yJ0_charAt_5068e, Cond.selects RJ0 yJ0_charAt_5068e yJ0_charAt_5068e, Cond.initialized RJ0, Cond.code yJ0_charAt_5068e cJ0_charAt_5068e 2 (some .char), Cond.fieldLink RJ0 9 "java/lang/String" "value" "[B", Cond.methodLink RJ0 492 yJ0_isLatin1_aae02, Cond.instanceMethod yJ0_isLatin1_aae02, Cond.selects RJ0 yJ0_isLatin1_aae02 yJ0_isLatin1_aae02]
def wsX4_faultOf_r3 : List Cond := [Cond.code yJ0_isLatin1_aae02 cJ0_isLatin1_aae02 1 (some .boolean), Cond.fieldLink RJ0 38 "java/lang/String" "COMPACT_STRINGS" "Z", Cond.fieldLink RJ0 15 "java/lang/String" "coder" "B", Cond.methodLink RJ0 495 yJ1_charAt_3b067, Cond.static yJ1_charAt_3b067, Cond.initialized RJ1, Cond.code yJ1_charAt_3b067 cJ1_charAt_3b067 2 (some .char), Cond.methodLink RJ1 9 yJ0_checkIndex_df160, Cond.static yJ0_checkIndex_df160, Cond.code yJ0_checkIndex_df160 cJ0_checkIndex_df160 2 none, Cond.fieldLink RJ0 1053 "jdk/internal/util/Preconditions" "SIOOBE_FORMATTER" "Ljava/util/function/BiFunction;", Cond.methodLink RJ0 1059 yJ3_checkIndex_8e157, Cond.static yJ3_checkIndex_8e157, Cond.initialized RJ3, Cond.code yJ3_checkIndex_8e157 cJ3_checkIndex_8e157 3 (some .int), Cond.methodLink RJ0 498 yJ2_charAt_3b067, Cond.static yJ2_charAt_3b067, Cond.initialized RJ2, Cond.code yJ2_charAt_3b067 cJ2_charAt_3b067 2 (some .char), Cond.methodLink RJ2 67 yJ2_checkIndex_2214a, Cond.static yJ2_checkIndex_2214a, Cond.code yJ2_checkIndex_2214a cJ2_checkIndex_2214a 2 none, Cond.methodLink RJ2 48 yJ2_length_9d52b, Cond.static yJ2_length_9d52b]
def wsX4_faultOf_r4 : List Cond := [Cond.code yJ2_length_9d52b cJ2_length_9d52b 1 (some .int), Cond.methodLink RJ2 414 yJ0_checkIndex_df160, Cond.methodLink RJ2 71 yJ2_getChar_3b067, Cond.static yJ2_getChar_3b067, Cond.code yJ2_getChar_3b067 cJ2_getChar_3b067 2 (some .char), Cond.fieldLink RJ2 44 "java/lang/StringUTF16" "$assertionsDisabled" "Z", Cond.fieldLink RJ2 59 "java/lang/StringUTF16" "HI_BYTE_SHIFT" "I", Cond.fieldLink RJ2 63 "java/lang/StringUTF16" "LO_BYTE_SHIFT" "I", Cond.methodLink RX4 64 yX4_readNumber, Cond.instanceMethod yX4_readNumber, Cond.selects RX4 yX4_readNumber yX4_readNumber, Cond.code yX4_readNumber cX4_readNumber 6 none, Cond.fieldLink RX4 84 "HopCredits$Reading" "LOWS" "[I", Cond.fieldLink RX4 87 "HopCredits$Reading" "HIGHS" "[I", Cond.methodLink RX4 80 yX4_isDigitHere, Cond.instanceMethod yX4_isDigitHere, Cond.selects RX4 yX4_isDigitHere yX4_isDigitHere, Cond.code yX4_isDigitHere cX4_isDigitHere 1 (some .boolean), Cond.static yX6_outside, Cond.initialized RX6, Cond.code yX6_outside cX6_outside 3 (some .boolean)]
def wsX4_faultOf : List Cond := .code yX4_faultOf cX4_faultOf 5 (some .int) :: ((wsX4_faultOf_r1 ++ (wsX4_faultOf_r2 ++ (wsX4_faultOf_r3 ++ wsX4_faultOf_r4))) ++ wsX40)
def wsX5_init : List Cond := .code yX5_init cX5_init 1 none :: ([.methodLink RX5 1 objectInit, .instanceMethod objectInit, .code objectInit ⟨#[0xb1]⟩ 1 none, .arrayClass .int, .fieldLink RX5 9 "HopCredits$Trips" "begun" "[I"] ++ wsX50)
def wsX6_init_r1 : List Cond := [Cond.methodLink RX6 1 objectInit, Cond.instanceMethod objectInit, Cond.code objectInit ⟨#[0xb1]⟩ 1 none, Cond.arrayClass .int, Cond.fieldLink RX6 9 "HopCredits" "tape" "[I", Cond.fieldLink RX6 13 "HopCredits" "refused" "[I", Cond.classLink RX6 16 RX4, Cond.instantiable RX4 7, Cond.initialized RX4, Cond.fieldLink RX6 19 "HopCredits" "reading" "LHopCredits$Reading;", Cond.classLink RX6 23 RX3, Cond.instantiable RX3 11, Cond.initialized RX3, Cond.fieldLink RX6 26 "HopCredits" "now" "LHopCredits$Net;", Cond.fieldLink RX6 30 "HopCredits" "apart" "LHopCredits$Net;", Cond.classLink RX6 33 RX5, Cond.fieldLink RX6 35 "HopCredits" "trips" "[LHopCredits$Trips;", Cond.fieldLink RX6 39 "HopCredits" "tally" "[I", Cond.instantiable RX5 6, Cond.initialized RX5, Cond.instanceMethod yX4_init, Cond.code yX4_init cX4_init 1 none, Cond.methodLink RX4 3 objectInit, Cond.fieldLink RX4 9 "HopCredits$Reading" "text" "[I"]
def wsX6_init_r2 : List Cond := [Cond.fieldLink RX4 15 "HopCredits$Reading" "values" "[I", Cond.methodLink RX6 25 yX3_init, Cond.instanceMethod yX3_init, Cond.code yX3_init cX3_init 2 none, Cond.methodLink RX3 3 objectInit, Cond.classLink RX3 9 RX2, Cond.fieldLink RX3 11 "HopCredits$Net" "links" "[LHopCredits$Link;", Cond.classLink RX3 17 RX0, Cond.fieldLink RX3 19 "HopCredits$Net" "flows" "[LHopCredits$Flow;", Cond.fieldLink RX3 23 "HopCredits$Net" "buffers" "[I", Cond.instantiable RX2 10, Cond.initialized RX2, Cond.instantiable RX0 8, Cond.initialized RX0, Cond.methodLink RX3 27 yX2_init, Cond.instanceMethod yX2_init, Cond.code yX2_init cX2_init 2 none, Cond.methodLink RX2 3 objectInit, Cond.fieldLink RX2 9 "HopCredits$Link" "cellAt" "[I", Cond.fieldLink RX2 15 "HopCredits$Link" "updateAt" "[I", Cond.fieldLink RX2 18 "HopCredits$Link" "probesAt" "[I", Cond.classLink RX2 21 RX1, Cond.fieldLink RX2 23 "HopCredits$Link" "lanes" "[LHopCredits$Lane;", Cond.instantiable RX1 7]
def wsX6_init_r3 : List Cond := [Cond.initialized RX1, Cond.instanceMethod yX1_init, Cond.code yX1_init cX1_init 1 none, Cond.methodLink RX1 3 objectInit, Cond.instanceMethod yX0_init, Cond.code yX0_init cX0_init 1 none, Cond.methodLink RX0 1 objectInit, Cond.instanceMethod yX5_init, Cond.code yX5_init cX5_init 1 none, Cond.methodLink RX5 1 objectInit, Cond.fieldLink RX5 9 "HopCredits$Trips" "begun" "[I"]
def wsX6_init : List Cond := .code yX6_init cX6_init 2 none :: ((wsX6_init_r1 ++ (wsX6_init_r2 ++ wsX6_init_r3)) ++ wsX60 ++ wsX40 ++ wsX30 ++ wsX50 ++ wsX20 ++ wsX00 ++ wsX10)
def wsX6_signsIn : List Cond := .code yX6_signsIn cX6_signsIn 3 (some .int) :: ([])
def wsX6_append : List Cond := .code yX6_append cX6_append 4 none :: ([.fieldLink RX6 47 "HopCredits" "tapeLength" "I", .fieldLink RX6 9 "HopCredits" "tape" "[I"] ++ wsX60)
def wsX6_feed : List Cond := .code yX6_feed cX6_feed 7 (some .int) :: ([.fieldLink RX6 47 "HopCredits" "tapeLength" "I", .methodLink RX6 43 yX6_signsIn, .static yX6_signsIn, .initialized RX6, .code yX6_signsIn cX6_signsIn 3 (some .int), .methodLink RX6 51 yX6_append, .instanceMethod yX6_append, .selects RX6 yX6_append yX6_append, .code yX6_append cX6_append 4 none, .fieldLink RX6 9 "HopCredits" "tape" "[I"] ++ wsX60)
def wsX6_end : List Cond := .code yX6_end cX6_end 2 (some .boolean) :: ([.fieldLink RX6 47 "HopCredits" "tapeLength" "I", .methodLink RX6 55 yX6_outside, .static yX6_outside, .initialized RX6, .code yX6_outside cX6_outside 3 (some .boolean)] ++ wsX60)
def wsX6_fault_r1 : List Cond := [Cond.fieldLink RX6 19 "HopCredits" "reading" "LHopCredits$Reading;", Cond.fieldLink RX6 9 "HopCredits" "tape" "[I", Cond.fieldLink RX6 47 "HopCredits" "tapeLength" "I", Cond.methodLink RX6 59 yX4_faultOf, Cond.instanceMethod yX4_faultOf, Cond.selects RX4 yX4_faultOf yX4_faultOf, Cond.initialized RX4, Cond.code yX4_faultOf cX4_faultOf 5 (some .int), Cond.fieldLink RX4 9 "HopCredits$Reading" "text" "[I", Cond.methodLink RX4 18 Lib.Math.min.name, Cond.static Lib.Math.min.name, Cond.initialized "java/lang/Math", Cond.code Lib.Math.min.name Lib.Math.min.code 2 (some .int), Cond.fieldLink RX4 24 "HopCredits$Reading" "length" "I", Cond.fieldLink RX4 28 "HopCredits$Reading" "at" "I", Cond.fieldLink RX4 31 "HopCredits$Reading" "fault" "I", Cond.fieldLink RX4 34 "HopCredits$Reading" "hopsTold" "I", Cond.fieldLink RX4 37 "HopCredits$Reading" "circuitsTold" "I", Cond.methodLink RX4 40 yX4_setUsual, Cond.instanceMethod yX4_setUsual, Cond.selects RX4 yX4_setUsual yX4_setUsual, Cond.code yX4_setUsual cX4_setUsual 3 none, Cond.fieldLink RX4 15 "HopCredits$Reading" "values" "[I", Cond.fieldLink RX4 47 "HopCredits$Reading" "USUAL" "[I"]
def wsX6_fault_r2 : List Cond := [Cond.methodLink RX4 50 yX4_kindOf, Cond.static yX4_kindOf, Cond.code yX4_kindOf cX4_kindOf 1 (some .int), Cond.methodLink RX4 43 yX4_readClause, Cond.instanceMethod yX4_readClause, Cond.selects RX4 yX4_readClause yX4_readClause, Cond.code yX4_readClause cX4_readClause 6 none, Cond.methodLink RX4 54 yX4_readHead, Cond.instanceMethod yX4_readHead, Cond.selects RX4 yX4_readHead yX4_readHead, Cond.code yX4_readHead cX4_readHead 3 (some .int), Cond.methodLink RX4 58 yX4_passBlanks, Cond.instanceMethod yX4_passBlanks, Cond.selects RX4 yX4_passBlanks yX4_passBlanks, Cond.code yX4_passBlanks cX4_passBlanks 1 none, Cond.methodLink RX4 68 yX4_clauseOf, Cond.instanceMethod yX4_clauseOf, Cond.selects RX4 yX4_clauseOf yX4_clauseOf, Cond.code yX4_clauseOf cX4_clauseOf 3 (some .int), Cond.methodLink RX4 61 yX4_itemOf, Cond.static yX4_itemOf, Cond.code yX4_itemOf cX4_itemOf 3 (some .int), Cond.methodLink RX4 74 yJ0_charAt_5068e, Cond.instanceMethod yJ0_charAt_5068e]
def wsX6_fault_r3 : List Cond := [Cond.selects RJ0 yJ0_charAt_5068e yJ0_charAt_5068e, Cond.initialized RJ0, Cond.code yJ0_charAt_5068e cJ0_charAt_5068e 2 (some .char), Cond.fieldLink RJ0 9 "java/lang/String" "value" "[B", Cond.methodLink RJ0 492 yJ0_isLatin1_aae02, Cond.instanceMethod yJ0_isLatin1_aae02, Cond.selects RJ0 yJ0_isLatin1_aae02 yJ0_isLatin1_aae02, Cond.code yJ0_isLatin1_aae02 cJ0_isLatin1_aae02 1 (some .boolean), Cond.fieldLink RJ0 38 "java/lang/String" "COMPACT_STRINGS" "Z", Cond.fieldLink RJ0 15 "java/lang/String" "coder" "B", Cond.methodLink RJ0 495 yJ1_charAt_3b067, Cond.static yJ1_charAt_3b067, Cond.initialized RJ1, Cond.code yJ1_charAt_3b067 cJ1_charAt_3b067 2 (some .char), Cond.methodLink RJ1 9 yJ0_checkIndex_df160, Cond.static yJ0_checkIndex_df160, Cond.code yJ0_checkIndex_df160 cJ0_checkIndex_df160 2 none, Cond.fieldLink RJ0 1053 "jdk/internal/util/Preconditions" "SIOOBE_FORMATTER" "Ljava/util/function/BiFunction;", Cond.methodLink RJ0 1059 yJ3_checkIndex_8e157, Cond.static yJ3_checkIndex_8e157, Cond.initialized RJ3, Cond.code yJ3_checkIndex_8e157 cJ3_checkIndex_8e157 3 (some .int), Cond.methodLink RJ0 498 yJ2_charAt_3b067, Cond.static yJ2_charAt_3b067]
def wsX6_fault_r4 : List Cond := [Cond.initialized RJ2, Cond.code yJ2_charAt_3b067 cJ2_charAt_3b067 2 (some .char), Cond.methodLink RJ2 67 yJ2_checkIndex_2214a, Cond.static yJ2_checkIndex_2214a, Cond.code yJ2_checkIndex_2214a cJ2_checkIndex_2214a 2 none, Cond.methodLink RJ2 48 yJ2_length_9d52b, Cond.static yJ2_length_9d52b, Cond.code yJ2_length_9d52b cJ2_length_9d52b 1 (some .int), Cond.methodLink RJ2 414 yJ0_checkIndex_df160, Cond.methodLink RJ2 71 yJ2_getChar_3b067, Cond.static yJ2_getChar_3b067, Cond.code yJ2_getChar_3b067 cJ2_getChar_3b067 2 (some .char), Cond.fieldLink RJ2 44 "java/lang/StringUTF16" "$assertionsDisabled" "Z", Cond.fieldLink RJ2 59 "java/lang/StringUTF16" "HI_BYTE_SHIFT" "I", Cond.fieldLink RJ2 63 "java/lang/StringUTF16" "LO_BYTE_SHIFT" "I", Cond.methodLink RX4 64 yX4_readNumber, Cond.instanceMethod yX4_readNumber, Cond.selects RX4 yX4_readNumber yX4_readNumber, Cond.code yX4_readNumber cX4_readNumber 6 none, Cond.fieldLink RX4 84 "HopCredits$Reading" "LOWS" "[I", Cond.fieldLink RX4 87 "HopCredits$Reading" "HIGHS" "[I", Cond.methodLink RX4 80 yX4_isDigitHere, Cond.instanceMethod yX4_isDigitHere, Cond.selects RX4 yX4_isDigitHere yX4_isDigitHere]
def wsX6_fault_r5 : List Cond := [Cond.code yX4_isDigitHere cX4_isDigitHere 1 (some .boolean), Cond.static yX6_outside, Cond.initialized RX6, Cond.code yX6_outside cX6_outside 3 (some .boolean)]
def wsX6_fault : List Cond := .code yX6_fault cX6_fault 1 (some .int) :: ((wsX6_fault_r1 ++ (wsX6_fault_r2 ++ (wsX6_fault_r3 ++ (wsX6_fault_r4 ++ wsX6_fault_r5)))) ++ wsX60 ++ wsX40)
def wsX6_net_r1 : List Cond := [Cond.fieldLink RX6 19 "HopCredits" "reading" "LHopCredits$Reading;", Cond.fieldLink RX6 9 "HopCredits" "tape" "[I", Cond.fieldLink RX6 47 "HopCredits" "tapeLength" "I", Cond.fieldLink RX6 26 "HopCredits" "now" "LHopCredits$Net;", Cond.fieldLink RX6 35 "HopCredits" "trips" "[LHopCredits$Trips;", Cond.fieldLink RX6 70 "HopCredits" "laid" "Z", Cond.fieldLink RX6 74 "HopCredits$Net" "circuits" "I", Cond.methodLink RX6 59 yX4_faultOf, Cond.instanceMethod yX4_faultOf, Cond.selects RX4 yX4_faultOf yX4_faultOf, Cond.initialized RX4, Cond.code yX4_faultOf cX4_faultOf 5 (some .int), Cond.fieldLink RX4 9 "HopCredits$Reading" "text" "[I", Cond.methodLink RX4 18 Lib.Math.min.name, Cond.static Lib.Math.min.name, Cond.initialized "java/lang/Math", Cond.code Lib.Math.min.name Lib.Math.min.code 2 (some .int), Cond.fieldLink RX4 24 "HopCredits$Reading" "length" "I", Cond.fieldLink RX4 28 "HopCredits$Reading" "at" "I", Cond.fieldLink RX4 31 "HopCredits$Reading" "fault" "I", Cond.fieldLink RX4 34 "HopCredits$Reading" "hopsTold" "I", Cond.fieldLink RX4 37 "HopCredits$Reading" "circuitsTold" "I", Cond.methodLink RX4 40 yX4_setUsual, Cond.instanceMethod yX4_setUsual]
def wsX6_net_r2 : List Cond := [Cond.selects RX4 yX4_setUsual yX4_setUsual, Cond.code yX4_setUsual cX4_setUsual 3 none, Cond.fieldLink RX4 15 "HopCredits$Reading" "values" "[I", Cond.fieldLink RX4 47 "HopCredits$Reading" "USUAL" "[I", Cond.methodLink RX4 50 yX4_kindOf, Cond.static yX4_kindOf, Cond.code yX4_kindOf cX4_kindOf 1 (some .int), Cond.methodLink RX4 43 yX4_readClause, Cond.instanceMethod yX4_readClause, Cond.selects RX4 yX4_readClause yX4_readClause, Cond.code yX4_readClause cX4_readClause 6 none, Cond.methodLink RX4 54 yX4_readHead, Cond.instanceMethod yX4_readHead, Cond.selects RX4 yX4_readHead yX4_readHead, Cond.code yX4_readHead cX4_readHead 3 (some .int), Cond.methodLink RX4 58 yX4_passBlanks, Cond.instanceMethod yX4_passBlanks, Cond.selects RX4 yX4_passBlanks yX4_passBlanks, Cond.code yX4_passBlanks cX4_passBlanks 1 none, Cond.methodLink RX4 68 yX4_clauseOf, Cond.instanceMethod yX4_clauseOf, Cond.selects RX4 yX4_clauseOf yX4_clauseOf, Cond.code yX4_clauseOf cX4_clauseOf 3 (some .int), Cond.methodLink RX4 61 yX4_itemOf]
def wsX6_net_r3 : List Cond := [Cond.static yX4_itemOf, Cond.code yX4_itemOf cX4_itemOf 3 (some .int), Cond.methodLink RX4 74 yJ0_charAt_5068e, Cond.instanceMethod yJ0_charAt_5068e, Cond.selects RJ0 yJ0_charAt_5068e yJ0_charAt_5068e, Cond.initialized RJ0, Cond.code yJ0_charAt_5068e cJ0_charAt_5068e 2 (some .char), Cond.fieldLink RJ0 9 "java/lang/String" "value" "[B", Cond.methodLink RJ0 492 yJ0_isLatin1_aae02, Cond.instanceMethod yJ0_isLatin1_aae02, Cond.selects RJ0 yJ0_isLatin1_aae02 yJ0_isLatin1_aae02, Cond.code yJ0_isLatin1_aae02 cJ0_isLatin1_aae02 1 (some .boolean), Cond.fieldLink RJ0 38 "java/lang/String" "COMPACT_STRINGS" "Z", Cond.fieldLink RJ0 15 "java/lang/String" "coder" "B", Cond.methodLink RJ0 495 yJ1_charAt_3b067, Cond.static yJ1_charAt_3b067, Cond.initialized RJ1, Cond.code yJ1_charAt_3b067 cJ1_charAt_3b067 2 (some .char), Cond.methodLink RJ1 9 yJ0_checkIndex_df160, Cond.static yJ0_checkIndex_df160, Cond.code yJ0_checkIndex_df160 cJ0_checkIndex_df160 2 none, Cond.fieldLink RJ0 1053 "jdk/internal/util/Preconditions" "SIOOBE_FORMATTER" "Ljava/util/function/BiFunction;", Cond.methodLink RJ0 1059 yJ3_checkIndex_8e157, Cond.static yJ3_checkIndex_8e157]
def wsX6_net_r4 : List Cond := [Cond.initialized RJ3, Cond.code yJ3_checkIndex_8e157 cJ3_checkIndex_8e157 3 (some .int), Cond.methodLink RJ0 498 yJ2_charAt_3b067, Cond.static yJ2_charAt_3b067, Cond.initialized RJ2, Cond.code yJ2_charAt_3b067 cJ2_charAt_3b067 2 (some .char), Cond.methodLink RJ2 67 yJ2_checkIndex_2214a, Cond.static yJ2_checkIndex_2214a, Cond.code yJ2_checkIndex_2214a cJ2_checkIndex_2214a 2 none, Cond.methodLink RJ2 48 yJ2_length_9d52b, Cond.static yJ2_length_9d52b, Cond.code yJ2_length_9d52b cJ2_length_9d52b 1 (some .int), Cond.methodLink RJ2 414 yJ0_checkIndex_df160, Cond.methodLink RJ2 71 yJ2_getChar_3b067, Cond.static yJ2_getChar_3b067, Cond.code yJ2_getChar_3b067 cJ2_getChar_3b067 2 (some .char), Cond.fieldLink RJ2 44 "java/lang/StringUTF16" "$assertionsDisabled" "Z", Cond.fieldLink RJ2 59 "java/lang/StringUTF16" "HI_BYTE_SHIFT" "I", Cond.fieldLink RJ2 63 "java/lang/StringUTF16" "LO_BYTE_SHIFT" "I", Cond.methodLink RX4 64 yX4_readNumber, Cond.instanceMethod yX4_readNumber, Cond.selects RX4 yX4_readNumber yX4_readNumber, Cond.code yX4_readNumber cX4_readNumber 6 none, Cond.fieldLink RX4 84 "HopCredits$Reading" "LOWS" "[I"]
def wsX6_net_r5 : List Cond := [Cond.fieldLink RX4 87 "HopCredits$Reading" "HIGHS" "[I", Cond.methodLink RX4 80 yX4_isDigitHere, Cond.instanceMethod yX4_isDigitHere, Cond.selects RX4 yX4_isDigitHere yX4_isDigitHere, Cond.code yX4_isDigitHere cX4_isDigitHere 1 (some .boolean), Cond.static yX6_outside, Cond.initialized RX6, Cond.code yX6_outside cX6_outside 3 (some .boolean), Cond.methodLink RX6 63 yX3_lay, Cond.instanceMethod yX3_lay, Cond.selects RX3 yX3_lay yX3_lay, Cond.initialized RX3, Cond.code yX3_lay cX3_lay 5 none, Cond.fieldLink RX3 46 "HopCredits$Net" "adapts" "I", Cond.fieldLink RX3 50 "HopCredits$Net" "probes" "I", Cond.fieldLink RX3 53 "HopCredits$Net" "hops" "I", Cond.fieldLink RX3 59 "HopCredits$Net" "reserve" "I", Cond.fieldLink RX3 62 "HopCredits$Net" "circuits" "I", Cond.methodLink RX3 64 Lib.Math.max.name, Cond.static Lib.Math.max.name, Cond.code Lib.Math.max.name Lib.Math.max.code 2 (some .int), Cond.fieldLink RX3 11 "HopCredits$Net" "links" "[LHopCredits$Link;", Cond.fieldLink RX3 19 "HopCredits$Net" "flows" "[LHopCredits$Flow;", Cond.methodLink RX3 29 yX4_hops]
def wsX6_net_r6 : List Cond := [Cond.instanceMethod yX4_hops, Cond.selects RX4 yX4_hops yX4_hops, Cond.code yX4_hops cX4_hops 1 (some .int), Cond.methodLink RX4 94 Lib.Math.max.name, Cond.methodLink RX3 35 yX4_circuits, Cond.instanceMethod yX4_circuits, Cond.selects RX4 yX4_circuits yX4_circuits, Cond.code yX4_circuits cX4_circuits 1 (some .int), Cond.methodLink RX3 38 yX4_ofRules, Cond.instanceMethod yX4_ofRules, Cond.selects RX4 yX4_ofRules yX4_ofRules, Cond.code yX4_ofRules cX4_ofRules 2 (some .int), Cond.methodLink RX3 42 yX3_layRules, Cond.instanceMethod yX3_layRules, Cond.selects RX3 yX3_layRules yX3_layRules, Cond.code yX3_layRules cX3_layRules 5 none, Cond.fieldLink RX3 78 "HopCredits$Net" "tick" "I", Cond.fieldLink RX3 81 "HopCredits$Net" "lost" "I", Cond.fieldLink RX3 84 "HopCredits$Net" "probesSent" "I", Cond.fieldLink RX3 23 "HopCredits$Net" "buffers" "[I", Cond.methodLink RX3 55 yX4_ofHop, Cond.instanceMethod yX4_ofHop, Cond.selects RX4 yX4_ofHop yX4_ofHop, Cond.code yX4_ofHop cX4_ofHop 3 (some .int)]
def wsX6_net_r7 : List Cond := [Cond.methodLink RX3 69 yX2_lay, Cond.instanceMethod yX2_lay, Cond.selects RX2 yX2_lay yX2_lay, Cond.initialized RX2, Cond.code yX2_lay cX2_lay 6 none, Cond.fieldLink RX2 28 "HopCredits$Link" "delay" "I", Cond.fieldLink RX2 32 "HopCredits$Link" "pool" "I", Cond.fieldLink RX2 35 "HopCredits$Link" "every" "I", Cond.fieldLink RX2 38 "HopCredits$Link" "jammed" "I", Cond.fieldLink RX2 41 "HopCredits$Link" "latest" "I", Cond.fieldLink RX2 44 "HopCredits$Link" "sender" "I", Cond.fieldLink RX2 23 "HopCredits$Link" "lanes" "[LHopCredits$Lane;", Cond.methodLink RX2 47 yX2_clearSlot, Cond.instanceMethod yX2_clearSlot, Cond.selects RX2 yX2_clearSlot yX2_clearSlot, Cond.code yX2_clearSlot cX2_clearSlot 3 none, Cond.fieldLink RX2 9 "HopCredits$Link" "cellAt" "[I", Cond.fieldLink RX2 15 "HopCredits$Link" "updateAt" "[I", Cond.fieldLink RX2 18 "HopCredits$Link" "probesAt" "[I", Cond.methodLink RX2 51 yX1_lay, Cond.instanceMethod yX1_lay, Cond.selects RX1 yX1_lay yX1_lay, Cond.initialized RX1, Cond.code yX1_lay cX1_lay 2 none]
def wsX6_net_r8 : List Cond := [Cond.fieldLink RX1 9 "HopCredits$Lane" "sent" "I", Cond.fieldLink RX1 15 "HopCredits$Lane" "gone" "I", Cond.fieldLink RX1 18 "HopCredits$Lane" "known" "I", Cond.fieldLink RX1 21 "HopCredits$Lane" "zone" "I", Cond.fieldLink RX1 24 "HopCredits$Lane" "waited" "I", Cond.fieldLink RX1 27 "HopCredits$Lane" "sinceUpdate" "I", Cond.fieldLink RX1 30 "HopCredits$Lane" "sinceAdapt" "I", Cond.methodLink RX3 73 yX4_ofCircuit, Cond.instanceMethod yX4_ofCircuit, Cond.selects RX4 yX4_ofCircuit yX4_ofCircuit, Cond.code yX4_ofCircuit cX4_ofCircuit 3 (some .int), Cond.methodLink RX3 76 yX0_lay, Cond.instanceMethod yX0_lay, Cond.selects RX0 yX0_lay yX0_lay, Cond.initialized RX0, Cond.code yX0_lay cX0_lay 4 none, Cond.fieldLink RX0 7 "HopCredits$Flow" "gap" "I", Cond.fieldLink RX0 13 "HopCredits$Flow" "start" "I", Cond.fieldLink RX0 16 "HopCredits$Flow" "takes" "I", Cond.fieldLink RX0 19 "HopCredits$Flow" "came" "I", Cond.fieldLink RX0 22 "HopCredits$Flow" "spilt" "I", Cond.fieldLink RX0 25 "HopCredits$Flow" "delivered" "I", Cond.fieldLink RX0 28 "HopCredits$Flow" "cameNow" "Z", Cond.fieldLink RX0 32 "HopCredits$Flow" "deliveredNow" "Z"]
def wsX6_net_r9 : List Cond := [Cond.methodLink RX6 67 yX5_clear, Cond.instanceMethod yX5_clear, Cond.selects RX5 yX5_clear yX5_clear, Cond.initialized RX5, Cond.code yX5_clear cX5_clear 1 none, Cond.fieldLink RX5 13 "HopCredits$Trips" "first" "I", Cond.fieldLink RX5 17 "HopCredits$Trips" "underway" "I", Cond.fieldLink RX5 20 "HopCredits$Trips" "latest" "I", Cond.fieldLink RX5 23 "HopCredits$Trips" "longest" "I", Cond.fieldLink RX5 26 "HopCredits$Trips" "total" "I"]
def wsX6_net : List Cond := .code yX6_net cX6_net 2 (some .int) :: ((wsX6_net_r1 ++ (wsX6_net_r2 ++ (wsX6_net_r3 ++ (wsX6_net_r4 ++ (wsX6_net_r5 ++ (wsX6_net_r6 ++ (wsX6_net_r7 ++ (wsX6_net_r8 ++ wsX6_net_r9)))))))) ++ wsX60 ++ wsX30 ++ wsX40 ++ wsX20 ++ wsX10 ++ wsX00 ++ wsX50)
def wsX6_rule : List Cond := .code yX6_rule cX6_rule 2 (some .int) :: ([.fieldLink RX6 70 "HopCredits" "laid" "Z", .constant RX6 77 (-1000000), .fieldLink RX6 26 "HopCredits" "now" "LHopCredits$Net;", .fieldLink RX6 78 "HopCredits$Net" "hops" "I", .fieldLink RX6 74 "HopCredits$Net" "circuits" "I", .fieldLink RX6 81 "HopCredits$Net" "reserve" "I", .fieldLink RX6 84 "HopCredits$Net" "adapts" "I", .fieldLink RX6 87 "HopCredits$Net" "probes" "I", .fieldLink RX6 90 "HopCredits$Net" "tick" "I"] ++ wsX60 ++ wsX30)
def wsX6_isHop : List Cond := .code yX6_isHop cX6_isHop 2 (some .boolean) :: ([.fieldLink RX6 70 "HopCredits" "laid" "Z", .fieldLink RX6 26 "HopCredits" "now" "LHopCredits$Net;", .fieldLink RX6 78 "HopCredits$Net" "hops" "I"] ++ wsX60 ++ wsX30)
def wsX6_isCircuit : List Cond := .code yX6_isCircuit cX6_isCircuit 2 (some .boolean) :: ([.fieldLink RX6 70 "HopCredits" "laid" "Z", .fieldLink RX6 26 "HopCredits" "now" "LHopCredits$Net;", .fieldLink RX6 74 "HopCredits$Net" "circuits" "I"] ++ wsX60 ++ wsX30)
def wsX6_isLane : List Cond := .code yX6_isLane cX6_isLane 3 (some .boolean) :: ([.methodLink RX6 93 yX6_isHop, .instanceMethod yX6_isHop, .selects RX6 yX6_isHop yX6_isHop, .initialized RX6, .code yX6_isHop cX6_isHop 2 (some .boolean), .fieldLink RX6 70 "HopCredits" "laid" "Z", .fieldLink RX6 26 "HopCredits" "now" "LHopCredits$Net;", .fieldLink RX6 78 "HopCredits$Net" "hops" "I", .methodLink RX6 135 yX6_isCircuit, .instanceMethod yX6_isCircuit, .selects RX6 yX6_isCircuit yX6_isCircuit, .code yX6_isCircuit cX6_isCircuit 2 (some .boolean), .fieldLink RX6 74 "HopCredits$Net" "circuits" "I"] ++ wsX60 ++ wsX30)
def wsX6_lane_r1 : List Cond := [Cond.fieldLink RX6 26 "HopCredits" "now" "LHopCredits$Net;", Cond.methodLink RX6 167 yX6_isLane, Cond.instanceMethod yX6_isLane, Cond.selects RX6 yX6_isLane yX6_isLane, Cond.initialized RX6, Cond.code yX6_isLane cX6_isLane 3 (some .boolean), Cond.methodLink RX6 93 yX6_isHop, Cond.instanceMethod yX6_isHop, Cond.selects RX6 yX6_isHop yX6_isHop, Cond.code yX6_isHop cX6_isHop 2 (some .boolean), Cond.fieldLink RX6 70 "HopCredits" "laid" "Z", Cond.fieldLink RX6 78 "HopCredits$Net" "hops" "I", Cond.methodLink RX6 135 yX6_isCircuit, Cond.instanceMethod yX6_isCircuit, Cond.selects RX6 yX6_isCircuit yX6_isCircuit, Cond.code yX6_isCircuit cX6_isCircuit 2 (some .boolean), Cond.fieldLink RX6 74 "HopCredits$Net" "circuits" "I", Cond.methodLink RX6 55 yX6_outside, Cond.static yX6_outside, Cond.code yX6_outside cX6_outside 3 (some .boolean), Cond.methodLink RX6 171 yX6_toldOfLane, Cond.static yX6_toldOfLane, Cond.code yX6_toldOfLane cX6_toldOfLane 6 (some .int), Cond.fieldLink RX6 104 "HopCredits$Net" "links" "[LHopCredits$Link;"]
def wsX6_lane_r2 : List Cond := [Cond.fieldLink RX6 175 "HopCredits$Link" "lanes" "[LHopCredits$Lane;", Cond.fieldLink RX6 179 "HopCredits$Lane" "sent" "I", Cond.fieldLink RX6 184 "HopCredits$Lane" "gone" "I", Cond.fieldLink RX6 187 "HopCredits$Lane" "known" "I", Cond.fieldLink RX6 190 "HopCredits$Lane" "zone" "I", Cond.fieldLink RX6 199 "HopCredits$Lane" "waited" "I", Cond.fieldLink RX6 202 "HopCredits$Lane" "sinceUpdate" "I", Cond.fieldLink RX6 205 "HopCredits$Lane" "sinceAdapt" "I", Cond.methodLink RX6 193 yX1_out, Cond.instanceMethod yX1_out, Cond.selects RX1 yX1_out yX1_out, Cond.initialized RX1, Cond.code yX1_out cX1_out 1 (some .int), Cond.fieldLink RX1 9 "HopCredits$Lane" "sent" "I", Cond.fieldLink RX1 18 "HopCredits$Lane" "known" "I", Cond.methodLink RX6 196 yX1_credit, Cond.instanceMethod yX1_credit, Cond.selects RX1 yX1_credit yX1_credit, Cond.code yX1_credit cX1_credit 1 (some .int), Cond.fieldLink RX1 21 "HopCredits$Lane" "zone" "I", Cond.methodLink RX1 37 Lib.Math.max.name, Cond.static Lib.Math.max.name, Cond.initialized "java/lang/Math", Cond.code Lib.Math.max.name Lib.Math.max.code 2 (some .int)]
def wsX6_lane_r3 : List Cond := [Cond.methodLink RX1 33 yX1_out, Cond.methodLink RX6 208 yX2_cellsOnOf, Cond.instanceMethod yX2_cellsOnOf, Cond.selects RX2 yX2_cellsOnOf yX2_cellsOnOf, Cond.initialized RX2, Cond.code yX2_cellsOnOf cX2_cellsOnOf 4 (some .int), Cond.fieldLink RX2 9 "HopCredits$Link" "cellAt" "[I"]
def wsX6_lane : List Cond := .code yX6_lane cX6_lane 4 (some .int) :: ((wsX6_lane_r1 ++ (wsX6_lane_r2 ++ wsX6_lane_r3)) ++ wsX60 ++ wsX30 ++ wsX20 ++ wsX10)
def wsX6_isNode : List Cond := .code yX6_isNode cX6_isNode 2 (some .boolean) :: ([.fieldLink RX6 70 "HopCredits" "laid" "Z", .fieldLink RX6 26 "HopCredits" "now" "LHopCredits$Net;", .fieldLink RX6 78 "HopCredits$Net" "hops" "I"] ++ wsX60 ++ wsX30)
def wsX6_buffer : List Cond := .code yX6_buffer cX6_buffer 3 (some .int) :: ([.fieldLink RX6 26 "HopCredits" "now" "LHopCredits$Net;", .methodLink RX6 211 yX6_isNode, .instanceMethod yX6_isNode, .selects RX6 yX6_isNode yX6_isNode, .initialized RX6, .code yX6_isNode cX6_isNode 2 (some .boolean), .fieldLink RX6 70 "HopCredits" "laid" "Z", .fieldLink RX6 78 "HopCredits$Net" "hops" "I", .methodLink RX6 135 yX6_isCircuit, .instanceMethod yX6_isCircuit, .selects RX6 yX6_isCircuit yX6_isCircuit, .code yX6_isCircuit cX6_isCircuit 2 (some .boolean), .fieldLink RX6 74 "HopCredits$Net" "circuits" "I", .methodLink RX6 214 yX3_waitingAt, .instanceMethod yX3_waitingAt, .selects RX3 yX3_waitingAt yX3_waitingAt, .initialized RX3, .code yX3_waitingAt cX3_waitingAt 3 (some .int), .fieldLink RX3 23 "HopCredits$Net" "buffers" "[I"] ++ wsX60 ++ wsX30)
def wsX6_way_r1 : List Cond := [Cond.fieldLink RX6 26 "HopCredits" "now" "LHopCredits$Net;", Cond.fieldLink RX6 104 "HopCredits$Net" "links" "[LHopCredits$Link;", Cond.fieldLink RX6 90 "HopCredits$Net" "tick" "I", Cond.fieldLink RX6 218 "HopCredits$Link" "cellAt" "[I", Cond.fieldLink RX6 224 "HopCredits$Link" "updateAt" "[I", Cond.methodLink RX6 93 yX6_isHop, Cond.instanceMethod yX6_isHop, Cond.selects RX6 yX6_isHop yX6_isHop, Cond.initialized RX6, Cond.code yX6_isHop cX6_isHop 2 (some .boolean), Cond.fieldLink RX6 70 "HopCredits" "laid" "Z", Cond.fieldLink RX6 78 "HopCredits$Net" "hops" "I", Cond.methodLink RX6 55 yX6_outside, Cond.static yX6_outside, Cond.code yX6_outside cX6_outside 3 (some .boolean), Cond.methodLink RX6 221 yX2_probeBits, Cond.instanceMethod yX2_probeBits, Cond.selects RX2 yX2_probeBits yX2_probeBits, Cond.initialized RX2, Cond.code yX2_probeBits cX2_probeBits 4 (some .int), Cond.fieldLink RX2 18 "HopCredits$Link" "probesAt" "[I", Cond.methodLink RX6 135 yX6_isCircuit, Cond.instanceMethod yX6_isCircuit, Cond.selects RX6 yX6_isCircuit yX6_isCircuit]
def wsX6_way_r2 : List Cond := [Cond.code yX6_isCircuit cX6_isCircuit 2 (some .boolean), Cond.fieldLink RX6 74 "HopCredits$Net" "circuits" "I"]
def wsX6_way : List Cond := .code yX6_way cX6_way 7 (some .int) :: ((wsX6_way_r1 ++ wsX6_way_r2) ++ wsX60 ++ wsX30 ++ wsX20)
def wsX6_refuse : List Cond := .code yX6_refuse cX6_refuse 2 (some .int) :: ([.fieldLink RX6 13 "HopCredits" "refused" "[I"] ++ wsX60)
def wsX6_go_r1 : List Cond := [Cond.fieldLink RX6 70 "HopCredits" "laid" "Z", Cond.fieldLink RX6 26 "HopCredits" "now" "LHopCredits$Net;", Cond.fieldLink RX6 90 "HopCredits$Net" "tick" "I", Cond.methodLink RX6 227 yX6_refuse, Cond.instanceMethod yX6_refuse, Cond.selects RX6 yX6_refuse yX6_refuse, Cond.initialized RX6, Cond.code yX6_refuse cX6_refuse 2 (some .int), Cond.fieldLink RX6 13 "HopCredits" "refused" "[I", Cond.methodLink RX6 55 yX6_outside, Cond.static yX6_outside, Cond.code yX6_outside cX6_outside 3 (some .boolean), Cond.methodLink RX6 230 yX6_stepForReal, Cond.instanceMethod yX6_stepForReal, Cond.selects RX6 yX6_stepForReal yX6_stepForReal, Cond.code yX6_stepForReal cX6_stepForReal 4 none, Cond.fieldLink RX6 74 "HopCredits$Net" "circuits" "I", Cond.fieldLink RX6 140 "HopCredits$Net" "flows" "[LHopCredits$Flow;", Cond.fieldLink RX6 236 "HopCredits$Flow" "cameNow" "Z", Cond.fieldLink RX6 35 "HopCredits" "trips" "[LHopCredits$Trips;", Cond.fieldLink RX6 242 "HopCredits$Flow" "deliveredNow" "Z", Cond.methodLink RX6 233 yX3_step, Cond.instanceMethod yX3_step, Cond.selects RX3 yX3_step yX3_step]
def wsX6_go_r2 : List Cond := [Cond.initialized RX3, Cond.code yX3_step cX3_step 2 none, Cond.fieldLink RX3 53 "HopCredits$Net" "hops" "I", Cond.fieldLink RX3 62 "HopCredits$Net" "circuits" "I", Cond.fieldLink RX3 46 "HopCredits$Net" "adapts" "I", Cond.fieldLink RX3 78 "HopCredits$Net" "tick" "I", Cond.fieldLink RX3 11 "HopCredits$Net" "links" "[LHopCredits$Link;", Cond.methodLink RX3 103 yX3_arriveOver, Cond.instanceMethod yX3_arriveOver, Cond.selects RX3 yX3_arriveOver yX3_arriveOver, Cond.code yX3_arriveOver cX3_arriveOver 9 none, Cond.fieldLink RX3 122 "HopCredits$Link" "cellAt" "[I", Cond.fieldLink RX3 23 "HopCredits$Net" "buffers" "[I", Cond.fieldLink RX3 125 "HopCredits$Link" "updateAt" "[I", Cond.fieldLink RX3 128 "HopCredits$Link" "lanes" "[LHopCredits$Lane;", Cond.fieldLink RX3 137 "HopCredits$Link" "probesAt" "[I", Cond.methodLink RX3 132 yX1_hear, Cond.instanceMethod yX1_hear, Cond.selects RX1 yX1_hear yX1_hear, Cond.initialized RX1, Cond.code yX1_hear cX1_hear 2 none, Cond.fieldLink RX1 18 "HopCredits$Lane" "known" "I", Cond.static yX6_reaches, Cond.code yX6_reaches cX6_reaches 2 (some .boolean)]
def wsX6_go_r3 : List Cond := [Cond.methodLink RX3 140 yX3_sendUpdate, Cond.instanceMethod yX3_sendUpdate, Cond.selects RX3 yX3_sendUpdate yX3_sendUpdate, Cond.code yX3_sendUpdate cX3_sendUpdate 3 none, Cond.fieldLink RX3 207 "HopCredits$Link" "jammed" "I", Cond.fieldLink RX3 81 "HopCredits$Net" "lost" "I", Cond.fieldLink RX3 183 "HopCredits$Link" "delay" "I", Cond.fieldLink RX3 198 "HopCredits$Lane" "gone" "I", Cond.methodLink RX3 144 yX2_clearSlot, Cond.instanceMethod yX2_clearSlot, Cond.selects RX2 yX2_clearSlot yX2_clearSlot, Cond.initialized RX2, Cond.code yX2_clearSlot cX2_clearSlot 3 none, Cond.fieldLink RX2 9 "HopCredits$Link" "cellAt" "[I", Cond.fieldLink RX2 15 "HopCredits$Link" "updateAt" "[I", Cond.fieldLink RX2 18 "HopCredits$Link" "probesAt" "[I", Cond.methodLink RX3 107 yX3_come, Cond.instanceMethod yX3_come, Cond.selects RX3 yX3_come yX3_come, Cond.code yX3_come cX3_come 3 none, Cond.fieldLink RX3 19 "HopCredits$Net" "flows" "[LHopCredits$Flow;", Cond.fieldLink RX3 147 "HopCredits$Flow" "cameNow" "Z", Cond.fieldLink RX3 155 "HopCredits$Flow" "came" "I", Cond.fieldLink RX3 158 "HopCredits$Flow" "spilt" "I"]
def wsX6_go_r4 : List Cond := [Cond.methodLink RX3 151 yX0_comesIn, Cond.instanceMethod yX0_comesIn, Cond.selects RX0 yX0_comesIn yX0_comesIn, Cond.initialized RX0, Cond.code yX0_comesIn cX0_comesIn 2 (some .boolean), Cond.fieldLink RX0 7 "HopCredits$Flow" "gap" "I", Cond.fieldLink RX0 13 "HopCredits$Flow" "start" "I", Cond.methodLink RX3 110 yX3_take, Cond.instanceMethod yX3_take, Cond.selects RX3 yX3_take yX3_take, Cond.code yX3_take cX3_take 4 none, Cond.fieldLink RX3 164 "HopCredits$Flow" "deliveredNow" "Z", Cond.fieldLink RX3 167 "HopCredits$Flow" "delivered" "I", Cond.methodLink RX3 161 yX0_takesIn, Cond.instanceMethod yX0_takesIn, Cond.selects RX0 yX0_takesIn yX0_takesIn, Cond.code yX0_takesIn cX0_takesIn 2 (some .boolean), Cond.fieldLink RX0 16 "HopCredits$Flow" "takes" "I", Cond.methodLink RX3 170 yX3_goneFrom, Cond.instanceMethod yX3_goneFrom, Cond.selects RX3 yX3_goneFrom yX3_goneFrom, Cond.code yX3_goneFrom cX3_goneFrom 5 none, Cond.fieldLink RX3 201 "HopCredits$Lane" "sinceUpdate" "I", Cond.fieldLink RX3 204 "HopCredits$Link" "every" "I"]
def wsX6_go_r5 : List Cond := [Cond.methodLink RX3 113 yX3_sendOver, Cond.instanceMethod yX3_sendOver, Cond.selects RX3 yX3_sendOver yX3_sendOver, Cond.code yX3_sendOver cX3_sendOver 5 none, Cond.fieldLink RX3 177 "HopCredits$Link" "sender" "I", Cond.fieldLink RX3 180 "HopCredits$Link" "latest" "I", Cond.fieldLink RX3 186 "HopCredits$Lane" "sent" "I", Cond.fieldLink RX3 189 "HopCredits$Lane" "sinceAdapt" "I", Cond.methodLink RX3 174 yX3_nextSender, Cond.instanceMethod yX3_nextSender, Cond.selects RX3 yX3_nextSender yX3_nextSender, Cond.code yX3_nextSender cX3_nextSender 6 (some .int), Cond.fieldLink RX3 195 "HopCredits$Lane" "zone" "I", Cond.methodLink RX3 192 yX1_out, Cond.instanceMethod yX1_out, Cond.selects RX1 yX1_out yX1_out, Cond.code yX1_out cX1_out 1 (some .int), Cond.fieldLink RX1 9 "HopCredits$Lane" "sent" "I", Cond.methodLink RX3 116 yX3_waitAt, Cond.instanceMethod yX3_waitAt, Cond.selects RX3 yX3_waitAt yX3_waitAt, Cond.code yX3_waitAt cX3_waitAt 4 none, Cond.fieldLink RX3 210 "HopCredits$Lane" "waited" "I", Cond.fieldLink RX3 50 "HopCredits$Net" "probes" "I"]
def wsX6_go_r6 : List Cond := [Cond.methodLink RX3 213 yX3_lacksCredit, Cond.instanceMethod yX3_lacksCredit, Cond.selects RX3 yX3_lacksCredit yX3_lacksCredit, Cond.code yX3_lacksCredit cX3_lacksCredit 3 (some .boolean), Cond.methodLink RX3 217 yX3_sendProbe, Cond.instanceMethod yX3_sendProbe, Cond.selects RX3 yX3_sendProbe yX3_sendProbe, Cond.code yX3_sendProbe cX3_sendProbe 3 none, Cond.fieldLink RX3 84 "HopCredits$Net" "probesSent" "I", Cond.methodLink RX3 119 yX3_adapt, Cond.instanceMethod yX3_adapt, Cond.selects RX3 yX3_adapt yX3_adapt, Cond.code yX3_adapt cX3_adapt 5 none, Cond.methodLink RX3 224 Lib.Math.min.name, Cond.static Lib.Math.min.name, Cond.initialized "java/lang/Math", Cond.code Lib.Math.min.name Lib.Math.min.code 2 (some .int), Cond.methodLink RX3 64 Lib.Math.max.name, Cond.static Lib.Math.max.name, Cond.code Lib.Math.max.name Lib.Math.max.code 2 (some .int), Cond.methodLink RX3 220 yX3_aimOf, Cond.instanceMethod yX3_aimOf, Cond.selects RX3 yX3_aimOf yX3_aimOf, Cond.code yX3_aimOf cX3_aimOf 5 (some .int)]
def wsX6_go_r7 : List Cond := [Cond.fieldLink RX3 230 "HopCredits$Link" "pool" "I", Cond.fieldLink RX3 59 "HopCredits$Net" "reserve" "I", Cond.methodLink RX3 227 yX2_roomFor, Cond.instanceMethod yX2_roomFor, Cond.selects RX2 yX2_roomFor yX2_roomFor, Cond.code yX2_roomFor cX2_roomFor 5 (some .int), Cond.fieldLink RX2 32 "HopCredits$Link" "pool" "I", Cond.fieldLink RX2 23 "HopCredits$Link" "lanes" "[LHopCredits$Lane;", Cond.fieldLink RX2 64 "HopCredits$Lane" "zone" "I", Cond.methodLink RX2 71 Lib.Math.max.name, Cond.methodLink RX2 67 yX1_out, Cond.methodLink RX6 239 yX5_begin, Cond.instanceMethod yX5_begin, Cond.selects RX5 yX5_begin yX5_begin, Cond.initialized RX5, Cond.code yX5_begin cX5_begin 2 none, Cond.fieldLink RX5 9 "HopCredits$Trips" "begun" "[I", Cond.fieldLink RX5 13 "HopCredits$Trips" "first" "I", Cond.fieldLink RX5 17 "HopCredits$Trips" "underway" "I", Cond.methodLink RX6 245 yX5_finish, Cond.instanceMethod yX5_finish, Cond.selects RX5 yX5_finish yX5_finish, Cond.code yX5_finish cX5_finish 2 none, Cond.fieldLink RX5 20 "HopCredits$Trips" "latest" "I"]
def wsX6_go_r8 : List Cond := [Cond.fieldLink RX5 23 "HopCredits$Trips" "longest" "I", Cond.methodLink RX5 33 Lib.Math.max.name, Cond.fieldLink RX5 26 "HopCredits$Trips" "total" "I", Cond.methodLink RX5 29 yX5_firstBegun, Cond.instanceMethod yX5_firstBegun, Cond.selects RX5 yX5_firstBegun yX5_firstBegun, Cond.code yX5_firstBegun cX5_firstBegun 1 (some .int)]
def wsX6_go : List Cond := .code yX6_go cX6_go 3 (some .int) :: ((wsX6_go_r1 ++ (wsX6_go_r2 ++ (wsX6_go_r3 ++ (wsX6_go_r4 ++ (wsX6_go_r5 ++ (wsX6_go_r6 ++ (wsX6_go_r7 ++ wsX6_go_r8))))))) ++ wsX60 ++ wsX30 ++ wsX00 ++ wsX20 ++ wsX10 ++ wsX50)
def wsX6_jam : List Cond := .code yX6_jam cX6_jam 5 (some .int) :: ([.fieldLink RX6 26 "HopCredits" "now" "LHopCredits$Net;", .fieldLink RX6 104 "HopCredits$Net" "links" "[LHopCredits$Link;", .fieldLink RX6 119 "HopCredits$Link" "jammed" "I", .methodLink RX6 93 yX6_isHop, .instanceMethod yX6_isHop, .selects RX6 yX6_isHop yX6_isHop, .initialized RX6, .code yX6_isHop cX6_isHop 2 (some .boolean), .fieldLink RX6 70 "HopCredits" "laid" "Z", .fieldLink RX6 78 "HopCredits$Net" "hops" "I", .methodLink RX6 227 yX6_refuse, .instanceMethod yX6_refuse, .selects RX6 yX6_refuse yX6_refuse, .code yX6_refuse cX6_refuse 2 (some .int), .fieldLink RX6 13 "HopCredits" "refused" "[I", .methodLink RX6 55 yX6_outside, .static yX6_outside, .code yX6_outside cX6_outside 3 (some .boolean)] ++ wsX60 ++ wsX30 ++ wsX20)
def wsX6_source : List Cond := .code yX6_source cX6_source 6 (some .int) :: ([.fieldLink RX6 26 "HopCredits" "now" "LHopCredits$Net;", .fieldLink RX6 140 "HopCredits$Net" "flows" "[LHopCredits$Flow;", .fieldLink RX6 144 "HopCredits$Flow" "gap" "I", .fieldLink RX6 149 "HopCredits$Flow" "start" "I", .methodLink RX6 135 yX6_isCircuit, .instanceMethod yX6_isCircuit, .selects RX6 yX6_isCircuit yX6_isCircuit, .initialized RX6, .code yX6_isCircuit cX6_isCircuit 2 (some .boolean), .fieldLink RX6 70 "HopCredits" "laid" "Z", .fieldLink RX6 74 "HopCredits$Net" "circuits" "I", .methodLink RX6 227 yX6_refuse, .instanceMethod yX6_refuse, .selects RX6 yX6_refuse yX6_refuse, .code yX6_refuse cX6_refuse 2 (some .int), .fieldLink RX6 13 "HopCredits" "refused" "[I", .methodLink RX6 55 yX6_outside, .static yX6_outside, .code yX6_outside cX6_outside 3 (some .boolean)] ++ wsX60 ++ wsX30 ++ wsX00)
def wsX6_takes : List Cond := .code yX6_takes cX6_takes 5 (some .int) :: ([.fieldLink RX6 26 "HopCredits" "now" "LHopCredits$Net;", .fieldLink RX6 140 "HopCredits$Net" "flows" "[LHopCredits$Flow;", .fieldLink RX6 152 "HopCredits$Flow" "takes" "I", .methodLink RX6 135 yX6_isCircuit, .instanceMethod yX6_isCircuit, .selects RX6 yX6_isCircuit yX6_isCircuit, .initialized RX6, .code yX6_isCircuit cX6_isCircuit 2 (some .boolean), .fieldLink RX6 70 "HopCredits" "laid" "Z", .fieldLink RX6 74 "HopCredits$Net" "circuits" "I", .methodLink RX6 227 yX6_refuse, .instanceMethod yX6_refuse, .selects RX6 yX6_refuse yX6_refuse, .code yX6_refuse cX6_refuse 2 (some .int), .fieldLink RX6 13 "HopCredits" "refused" "[I", .methodLink RX6 55 yX6_outside, .static yX6_outside, .code yX6_outside cX6_outside 3 (some .boolean)] ++ wsX60 ++ wsX30 ++ wsX00)
def wsX6_zoneRefusal_r1 : List Cond := [Cond.fieldLink RX6 26 "HopCredits" "now" "LHopCredits$Net;", Cond.fieldLink RX6 104 "HopCredits$Net" "links" "[LHopCredits$Link;", Cond.fieldLink RX6 81 "HopCredits$Net" "reserve" "I", Cond.fieldLink RX6 113 "HopCredits$Link" "pool" "I", Cond.fieldLink RX6 175 "HopCredits$Link" "lanes" "[LHopCredits$Lane;", Cond.fieldLink RX6 190 "HopCredits$Lane" "zone" "I", Cond.methodLink RX6 167 yX6_isLane, Cond.instanceMethod yX6_isLane, Cond.selects RX6 yX6_isLane yX6_isLane, Cond.initialized RX6, Cond.code yX6_isLane cX6_isLane 3 (some .boolean), Cond.methodLink RX6 93 yX6_isHop, Cond.instanceMethod yX6_isHop, Cond.selects RX6 yX6_isHop yX6_isHop, Cond.code yX6_isHop cX6_isHop 2 (some .boolean), Cond.fieldLink RX6 70 "HopCredits" "laid" "Z", Cond.fieldLink RX6 78 "HopCredits$Net" "hops" "I", Cond.methodLink RX6 135 yX6_isCircuit, Cond.instanceMethod yX6_isCircuit, Cond.selects RX6 yX6_isCircuit yX6_isCircuit, Cond.code yX6_isCircuit cX6_isCircuit 2 (some .boolean), Cond.fieldLink RX6 74 "HopCredits$Net" "circuits" "I", Cond.methodLink RX6 55 yX6_outside, Cond.static yX6_outside]
def wsX6_zoneRefusal_r2 : List Cond := [Cond.code yX6_outside cX6_outside 3 (some .boolean), Cond.methodLink RX6 252 yX6_largestZone, Cond.instanceMethod yX6_largestZone, Cond.selects RX6 yX6_largestZone yX6_largestZone, Cond.code yX6_largestZone cX6_largestZone 4 (some .int), Cond.methodLink RX6 258 Lib.Math.max.name, Cond.static Lib.Math.max.name, Cond.initialized "java/lang/Math", Cond.code Lib.Math.max.name Lib.Math.max.code 2 (some .int), Cond.methodLink RX6 255 yX2_roomFor, Cond.instanceMethod yX2_roomFor, Cond.selects RX2 yX2_roomFor yX2_roomFor, Cond.initialized RX2, Cond.code yX2_roomFor cX2_roomFor 5 (some .int), Cond.fieldLink RX2 32 "HopCredits$Link" "pool" "I", Cond.fieldLink RX2 23 "HopCredits$Link" "lanes" "[LHopCredits$Lane;", Cond.fieldLink RX2 64 "HopCredits$Lane" "zone" "I", Cond.methodLink RX2 71 Lib.Math.max.name, Cond.methodLink RX2 67 yX1_out, Cond.instanceMethod yX1_out, Cond.selects RX1 yX1_out yX1_out, Cond.initialized RX1, Cond.code yX1_out cX1_out 1 (some .int), Cond.fieldLink RX1 9 "HopCredits$Lane" "sent" "I"]
def wsX6_zoneRefusal_r3 : List Cond := [Cond.fieldLink RX1 18 "HopCredits$Lane" "known" "I"]
def wsX6_zoneRefusal : List Cond := .code yX6_zoneRefusal cX6_zoneRefusal 5 (some .int) :: ((wsX6_zoneRefusal_r1 ++ (wsX6_zoneRefusal_r2 ++ wsX6_zoneRefusal_r3)) ++ wsX60 ++ wsX30 ++ wsX20 ++ wsX10)
def wsX6_zone_r1 : List Cond := [Cond.fieldLink RX6 26 "HopCredits" "now" "LHopCredits$Net;", Cond.fieldLink RX6 104 "HopCredits$Net" "links" "[LHopCredits$Link;", Cond.fieldLink RX6 175 "HopCredits$Link" "lanes" "[LHopCredits$Lane;", Cond.fieldLink RX6 190 "HopCredits$Lane" "zone" "I", Cond.methodLink RX6 248 yX6_zoneRefusal, Cond.instanceMethod yX6_zoneRefusal, Cond.selects RX6 yX6_zoneRefusal yX6_zoneRefusal, Cond.initialized RX6, Cond.code yX6_zoneRefusal cX6_zoneRefusal 5 (some .int), Cond.fieldLink RX6 81 "HopCredits$Net" "reserve" "I", Cond.fieldLink RX6 113 "HopCredits$Link" "pool" "I", Cond.methodLink RX6 167 yX6_isLane, Cond.instanceMethod yX6_isLane, Cond.selects RX6 yX6_isLane yX6_isLane, Cond.code yX6_isLane cX6_isLane 3 (some .boolean), Cond.methodLink RX6 93 yX6_isHop, Cond.instanceMethod yX6_isHop, Cond.selects RX6 yX6_isHop yX6_isHop, Cond.code yX6_isHop cX6_isHop 2 (some .boolean), Cond.fieldLink RX6 70 "HopCredits" "laid" "Z", Cond.fieldLink RX6 78 "HopCredits$Net" "hops" "I", Cond.methodLink RX6 135 yX6_isCircuit, Cond.instanceMethod yX6_isCircuit, Cond.selects RX6 yX6_isCircuit yX6_isCircuit]
def wsX6_zone_r2 : List Cond := [Cond.code yX6_isCircuit cX6_isCircuit 2 (some .boolean), Cond.fieldLink RX6 74 "HopCredits$Net" "circuits" "I", Cond.methodLink RX6 55 yX6_outside, Cond.static yX6_outside, Cond.code yX6_outside cX6_outside 3 (some .boolean), Cond.methodLink RX6 252 yX6_largestZone, Cond.instanceMethod yX6_largestZone, Cond.selects RX6 yX6_largestZone yX6_largestZone, Cond.code yX6_largestZone cX6_largestZone 4 (some .int), Cond.methodLink RX6 258 Lib.Math.max.name, Cond.static Lib.Math.max.name, Cond.initialized "java/lang/Math", Cond.code Lib.Math.max.name Lib.Math.max.code 2 (some .int), Cond.methodLink RX6 255 yX2_roomFor, Cond.instanceMethod yX2_roomFor, Cond.selects RX2 yX2_roomFor yX2_roomFor, Cond.initialized RX2, Cond.code yX2_roomFor cX2_roomFor 5 (some .int), Cond.fieldLink RX2 32 "HopCredits$Link" "pool" "I", Cond.fieldLink RX2 23 "HopCredits$Link" "lanes" "[LHopCredits$Lane;", Cond.fieldLink RX2 64 "HopCredits$Lane" "zone" "I", Cond.methodLink RX2 71 Lib.Math.max.name, Cond.methodLink RX2 67 yX1_out, Cond.instanceMethod yX1_out]
def wsX6_zone_r3 : List Cond := [Cond.selects RX1 yX1_out yX1_out, Cond.initialized RX1, Cond.code yX1_out cX1_out 1 (some .int), Cond.fieldLink RX1 9 "HopCredits$Lane" "sent" "I", Cond.fieldLink RX1 18 "HopCredits$Lane" "known" "I", Cond.methodLink RX6 227 yX6_refuse, Cond.instanceMethod yX6_refuse, Cond.selects RX6 yX6_refuse yX6_refuse, Cond.code yX6_refuse cX6_refuse 2 (some .int), Cond.fieldLink RX6 13 "HopCredits" "refused" "[I"]
def wsX6_zone : List Cond := .code yX6_zone cX6_zone 7 (some .int) :: ((wsX6_zone_r1 ++ (wsX6_zone_r2 ++ wsX6_zone_r3)) ++ wsX60 ++ wsX30 ++ wsX20 ++ wsX10)
def wsX6_probe_r1 : List Cond := [Cond.fieldLink RX6 26 "HopCredits" "now" "LHopCredits$Net;", Cond.fieldLink RX6 104 "HopCredits$Net" "links" "[LHopCredits$Link;", Cond.fieldLink RX6 175 "HopCredits$Link" "lanes" "[LHopCredits$Lane;", Cond.methodLink RX6 167 yX6_isLane, Cond.instanceMethod yX6_isLane, Cond.selects RX6 yX6_isLane yX6_isLane, Cond.initialized RX6, Cond.code yX6_isLane cX6_isLane 3 (some .boolean), Cond.methodLink RX6 93 yX6_isHop, Cond.instanceMethod yX6_isHop, Cond.selects RX6 yX6_isHop yX6_isHop, Cond.code yX6_isHop cX6_isHop 2 (some .boolean), Cond.fieldLink RX6 70 "HopCredits" "laid" "Z", Cond.fieldLink RX6 78 "HopCredits$Net" "hops" "I", Cond.methodLink RX6 135 yX6_isCircuit, Cond.instanceMethod yX6_isCircuit, Cond.selects RX6 yX6_isCircuit yX6_isCircuit, Cond.code yX6_isCircuit cX6_isCircuit 2 (some .boolean), Cond.fieldLink RX6 74 "HopCredits$Net" "circuits" "I", Cond.methodLink RX6 227 yX6_refuse, Cond.instanceMethod yX6_refuse, Cond.selects RX6 yX6_refuse yX6_refuse, Cond.code yX6_refuse cX6_refuse 2 (some .int), Cond.fieldLink RX6 13 "HopCredits" "refused" "[I"]
def wsX6_probe_r2 : List Cond := [Cond.methodLink RX6 263 yX3_sendProbe, Cond.instanceMethod yX3_sendProbe, Cond.selects RX3 yX3_sendProbe yX3_sendProbe, Cond.initialized RX3, Cond.code yX3_sendProbe cX3_sendProbe 3 none, Cond.fieldLink RX3 137 "HopCredits$Link" "probesAt" "[I", Cond.fieldLink RX3 78 "HopCredits$Net" "tick" "I", Cond.fieldLink RX3 183 "HopCredits$Link" "delay" "I", Cond.fieldLink RX3 128 "HopCredits$Link" "lanes" "[LHopCredits$Lane;", Cond.fieldLink RX3 210 "HopCredits$Lane" "waited" "I", Cond.fieldLink RX3 84 "HopCredits$Net" "probesSent" "I", Cond.methodLink RX6 193 yX1_out, Cond.instanceMethod yX1_out, Cond.selects RX1 yX1_out yX1_out, Cond.initialized RX1, Cond.code yX1_out cX1_out 1 (some .int), Cond.fieldLink RX1 9 "HopCredits$Lane" "sent" "I", Cond.fieldLink RX1 18 "HopCredits$Lane" "known" "I"]
def wsX6_probe : List Cond := .code yX6_probe cX6_probe 3 (some .int) :: ((wsX6_probe_r1 ++ wsX6_probe_r2) ++ wsX60 ++ wsX30 ++ wsX20 ++ wsX10)
def wsX6_status : List Cond := .code yX6_status cX6_status 2 (some .int) :: ([.fieldLink RX6 13 "HopCredits" "refused" "[I", .methodLink RX6 55 yX6_outside, .static yX6_outside, .initialized RX6, .code yX6_outside cX6_outside 3 (some .boolean)] ++ wsX60)
def wsX6_laneAhead_r1 : List Cond := [Cond.fieldLink RX6 30 "HopCredits" "apart" "LHopCredits$Net;", Cond.methodLink RX6 167 yX6_isLane, Cond.instanceMethod yX6_isLane, Cond.selects RX6 yX6_isLane yX6_isLane, Cond.initialized RX6, Cond.code yX6_isLane cX6_isLane 3 (some .boolean), Cond.methodLink RX6 93 yX6_isHop, Cond.instanceMethod yX6_isHop, Cond.selects RX6 yX6_isHop yX6_isHop, Cond.code yX6_isHop cX6_isHop 2 (some .boolean), Cond.fieldLink RX6 70 "HopCredits" "laid" "Z", Cond.fieldLink RX6 26 "HopCredits" "now" "LHopCredits$Net;", Cond.fieldLink RX6 78 "HopCredits$Net" "hops" "I", Cond.methodLink RX6 135 yX6_isCircuit, Cond.instanceMethod yX6_isCircuit, Cond.selects RX6 yX6_isCircuit yX6_isCircuit, Cond.code yX6_isCircuit cX6_isCircuit 2 (some .boolean), Cond.fieldLink RX6 74 "HopCredits$Net" "circuits" "I", Cond.methodLink RX6 55 yX6_outside, Cond.static yX6_outside, Cond.code yX6_outside cX6_outside 3 (some .boolean), Cond.methodLink RX6 267 yX6_goApart, Cond.instanceMethod yX6_goApart, Cond.selects RX6 yX6_goApart yX6_goApart]
def wsX6_laneAhead_r2 : List Cond := [Cond.code yX6_goApart cX6_goApart 2 none, Cond.methodLink RX6 270 yX3_copy, Cond.instanceMethod yX3_copy, Cond.selects RX3 yX3_copy yX3_copy, Cond.initialized RX3, Cond.code yX3_copy cX3_copy 3 none, Cond.fieldLink RX3 53 "HopCredits$Net" "hops" "I", Cond.fieldLink RX3 62 "HopCredits$Net" "circuits" "I", Cond.fieldLink RX3 59 "HopCredits$Net" "reserve" "I", Cond.fieldLink RX3 46 "HopCredits$Net" "adapts" "I", Cond.fieldLink RX3 50 "HopCredits$Net" "probes" "I", Cond.fieldLink RX3 78 "HopCredits$Net" "tick" "I", Cond.fieldLink RX3 81 "HopCredits$Net" "lost" "I", Cond.fieldLink RX3 84 "HopCredits$Net" "probesSent" "I", Cond.fieldLink RX3 11 "HopCredits$Net" "links" "[LHopCredits$Link;", Cond.fieldLink RX3 19 "HopCredits$Net" "flows" "[LHopCredits$Flow;", Cond.fieldLink RX3 23 "HopCredits$Net" "buffers" "[I", Cond.methodLink RX3 94 arraycopyName, Cond.native arraycopyName, Cond.static arraycopyName, Cond.initialized "java/lang/System", Cond.methodLink RX3 87 yX2_copy, Cond.instanceMethod yX2_copy, Cond.selects RX2 yX2_copy yX2_copy]
def wsX6_laneAhead_r3 : List Cond := [Cond.initialized RX2, Cond.code yX2_copy cX2_copy 3 none, Cond.fieldLink RX2 28 "HopCredits$Link" "delay" "I", Cond.fieldLink RX2 32 "HopCredits$Link" "pool" "I", Cond.fieldLink RX2 35 "HopCredits$Link" "every" "I", Cond.fieldLink RX2 38 "HopCredits$Link" "jammed" "I", Cond.fieldLink RX2 41 "HopCredits$Link" "latest" "I", Cond.fieldLink RX2 44 "HopCredits$Link" "sender" "I", Cond.fieldLink RX2 9 "HopCredits$Link" "cellAt" "[I", Cond.methodLink RX2 54 arraycopyName, Cond.fieldLink RX2 15 "HopCredits$Link" "updateAt" "[I", Cond.fieldLink RX2 18 "HopCredits$Link" "probesAt" "[I", Cond.fieldLink RX2 23 "HopCredits$Link" "lanes" "[LHopCredits$Lane;", Cond.methodLink RX2 60 yX1_copy, Cond.instanceMethod yX1_copy, Cond.selects RX1 yX1_copy yX1_copy, Cond.initialized RX1, Cond.code yX1_copy cX1_copy 2 none, Cond.fieldLink RX1 9 "HopCredits$Lane" "sent" "I", Cond.fieldLink RX1 15 "HopCredits$Lane" "gone" "I", Cond.fieldLink RX1 18 "HopCredits$Lane" "known" "I", Cond.fieldLink RX1 21 "HopCredits$Lane" "zone" "I", Cond.fieldLink RX1 24 "HopCredits$Lane" "waited" "I", Cond.fieldLink RX1 27 "HopCredits$Lane" "sinceUpdate" "I"]
def wsX6_laneAhead_r4 : List Cond := [Cond.fieldLink RX1 30 "HopCredits$Lane" "sinceAdapt" "I", Cond.methodLink RX3 91 yX0_copy, Cond.instanceMethod yX0_copy, Cond.selects RX0 yX0_copy yX0_copy, Cond.initialized RX0, Cond.code yX0_copy cX0_copy 2 none, Cond.fieldLink RX0 7 "HopCredits$Flow" "gap" "I", Cond.fieldLink RX0 13 "HopCredits$Flow" "start" "I", Cond.fieldLink RX0 16 "HopCredits$Flow" "takes" "I", Cond.fieldLink RX0 19 "HopCredits$Flow" "came" "I", Cond.fieldLink RX0 22 "HopCredits$Flow" "spilt" "I", Cond.fieldLink RX0 25 "HopCredits$Flow" "delivered" "I", Cond.fieldLink RX0 28 "HopCredits$Flow" "cameNow" "Z", Cond.fieldLink RX0 32 "HopCredits$Flow" "deliveredNow" "Z", Cond.methodLink RX6 274 yX3_steps, Cond.instanceMethod yX3_steps, Cond.selects RX3 yX3_steps yX3_steps, Cond.code yX3_steps cX3_steps 3 none, Cond.methodLink RX3 100 yX3_step, Cond.instanceMethod yX3_step, Cond.selects RX3 yX3_step yX3_step, Cond.code yX3_step cX3_step 2 none, Cond.methodLink RX3 103 yX3_arriveOver, Cond.instanceMethod yX3_arriveOver]
def wsX6_laneAhead_r5 : List Cond := [Cond.selects RX3 yX3_arriveOver yX3_arriveOver, Cond.code yX3_arriveOver cX3_arriveOver 9 none, Cond.fieldLink RX3 122 "HopCredits$Link" "cellAt" "[I", Cond.fieldLink RX3 125 "HopCredits$Link" "updateAt" "[I", Cond.fieldLink RX3 128 "HopCredits$Link" "lanes" "[LHopCredits$Lane;", Cond.fieldLink RX3 137 "HopCredits$Link" "probesAt" "[I", Cond.methodLink RX3 132 yX1_hear, Cond.instanceMethod yX1_hear, Cond.selects RX1 yX1_hear yX1_hear, Cond.code yX1_hear cX1_hear 2 none, Cond.static yX6_reaches, Cond.code yX6_reaches cX6_reaches 2 (some .boolean), Cond.methodLink RX3 140 yX3_sendUpdate, Cond.instanceMethod yX3_sendUpdate, Cond.selects RX3 yX3_sendUpdate yX3_sendUpdate, Cond.code yX3_sendUpdate cX3_sendUpdate 3 none, Cond.fieldLink RX3 207 "HopCredits$Link" "jammed" "I", Cond.fieldLink RX3 183 "HopCredits$Link" "delay" "I", Cond.fieldLink RX3 198 "HopCredits$Lane" "gone" "I", Cond.methodLink RX3 144 yX2_clearSlot, Cond.instanceMethod yX2_clearSlot, Cond.selects RX2 yX2_clearSlot yX2_clearSlot, Cond.code yX2_clearSlot cX2_clearSlot 3 none, Cond.methodLink RX3 107 yX3_come]
def wsX6_laneAhead_r6 : List Cond := [Cond.instanceMethod yX3_come, Cond.selects RX3 yX3_come yX3_come, Cond.code yX3_come cX3_come 3 none, Cond.fieldLink RX3 147 "HopCredits$Flow" "cameNow" "Z", Cond.fieldLink RX3 155 "HopCredits$Flow" "came" "I", Cond.fieldLink RX3 158 "HopCredits$Flow" "spilt" "I", Cond.methodLink RX3 151 yX0_comesIn, Cond.instanceMethod yX0_comesIn, Cond.selects RX0 yX0_comesIn yX0_comesIn, Cond.code yX0_comesIn cX0_comesIn 2 (some .boolean), Cond.methodLink RX3 110 yX3_take, Cond.instanceMethod yX3_take, Cond.selects RX3 yX3_take yX3_take, Cond.code yX3_take cX3_take 4 none, Cond.fieldLink RX3 164 "HopCredits$Flow" "deliveredNow" "Z", Cond.fieldLink RX3 167 "HopCredits$Flow" "delivered" "I", Cond.methodLink RX3 161 yX0_takesIn, Cond.instanceMethod yX0_takesIn, Cond.selects RX0 yX0_takesIn yX0_takesIn, Cond.code yX0_takesIn cX0_takesIn 2 (some .boolean), Cond.methodLink RX3 170 yX3_goneFrom, Cond.instanceMethod yX3_goneFrom, Cond.selects RX3 yX3_goneFrom yX3_goneFrom, Cond.code yX3_goneFrom cX3_goneFrom 5 none]
def wsX6_laneAhead_r7 : List Cond := [Cond.fieldLink RX3 201 "HopCredits$Lane" "sinceUpdate" "I", Cond.fieldLink RX3 204 "HopCredits$Link" "every" "I", Cond.methodLink RX3 113 yX3_sendOver, Cond.instanceMethod yX3_sendOver, Cond.selects RX3 yX3_sendOver yX3_sendOver, Cond.code yX3_sendOver cX3_sendOver 5 none, Cond.fieldLink RX3 177 "HopCredits$Link" "sender" "I", Cond.fieldLink RX3 180 "HopCredits$Link" "latest" "I", Cond.fieldLink RX3 186 "HopCredits$Lane" "sent" "I", Cond.fieldLink RX3 189 "HopCredits$Lane" "sinceAdapt" "I", Cond.methodLink RX3 174 yX3_nextSender, Cond.instanceMethod yX3_nextSender, Cond.selects RX3 yX3_nextSender yX3_nextSender, Cond.code yX3_nextSender cX3_nextSender 6 (some .int), Cond.fieldLink RX3 195 "HopCredits$Lane" "zone" "I", Cond.methodLink RX3 192 yX1_out, Cond.instanceMethod yX1_out, Cond.selects RX1 yX1_out yX1_out, Cond.code yX1_out cX1_out 1 (some .int), Cond.methodLink RX3 116 yX3_waitAt, Cond.instanceMethod yX3_waitAt, Cond.selects RX3 yX3_waitAt yX3_waitAt, Cond.code yX3_waitAt cX3_waitAt 4 none, Cond.fieldLink RX3 210 "HopCredits$Lane" "waited" "I"]
def wsX6_laneAhead_r8 : List Cond := [Cond.methodLink RX3 213 yX3_lacksCredit, Cond.instanceMethod yX3_lacksCredit, Cond.selects RX3 yX3_lacksCredit yX3_lacksCredit, Cond.code yX3_lacksCredit cX3_lacksCredit 3 (some .boolean), Cond.methodLink RX3 217 yX3_sendProbe, Cond.instanceMethod yX3_sendProbe, Cond.selects RX3 yX3_sendProbe yX3_sendProbe, Cond.code yX3_sendProbe cX3_sendProbe 3 none, Cond.methodLink RX3 119 yX3_adapt, Cond.instanceMethod yX3_adapt, Cond.selects RX3 yX3_adapt yX3_adapt, Cond.code yX3_adapt cX3_adapt 5 none, Cond.methodLink RX3 224 Lib.Math.min.name, Cond.static Lib.Math.min.name, Cond.initialized "java/lang/Math", Cond.code Lib.Math.min.name Lib.Math.min.code 2 (some .int), Cond.methodLink RX3 64 Lib.Math.max.name, Cond.static Lib.Math.max.name, Cond.code Lib.Math.max.name Lib.Math.max.code 2 (some .int), Cond.methodLink RX3 220 yX3_aimOf, Cond.instanceMethod yX3_aimOf, Cond.selects RX3 yX3_aimOf yX3_aimOf, Cond.code yX3_aimOf cX3_aimOf 5 (some .int), Cond.fieldLink RX3 230 "HopCredits$Link" "pool" "I"]
def wsX6_laneAhead_r9 : List Cond := [Cond.methodLink RX3 227 yX2_roomFor, Cond.instanceMethod yX2_roomFor, Cond.selects RX2 yX2_roomFor yX2_roomFor, Cond.code yX2_roomFor cX2_roomFor 5 (some .int), Cond.fieldLink RX2 64 "HopCredits$Lane" "zone" "I", Cond.methodLink RX2 71 Lib.Math.max.name, Cond.methodLink RX2 67 yX1_out, Cond.methodLink RX6 171 yX6_toldOfLane, Cond.static yX6_toldOfLane, Cond.code yX6_toldOfLane cX6_toldOfLane 6 (some .int), Cond.fieldLink RX6 104 "HopCredits$Net" "links" "[LHopCredits$Link;", Cond.fieldLink RX6 175 "HopCredits$Link" "lanes" "[LHopCredits$Lane;", Cond.fieldLink RX6 179 "HopCredits$Lane" "sent" "I", Cond.fieldLink RX6 184 "HopCredits$Lane" "gone" "I", Cond.fieldLink RX6 187 "HopCredits$Lane" "known" "I", Cond.fieldLink RX6 190 "HopCredits$Lane" "zone" "I", Cond.fieldLink RX6 199 "HopCredits$Lane" "waited" "I", Cond.fieldLink RX6 202 "HopCredits$Lane" "sinceUpdate" "I", Cond.fieldLink RX6 205 "HopCredits$Lane" "sinceAdapt" "I", Cond.methodLink RX6 193 yX1_out, Cond.methodLink RX6 196 yX1_credit, Cond.instanceMethod yX1_credit, Cond.selects RX1 yX1_credit yX1_credit, Cond.code yX1_credit cX1_credit 1 (some .int)]
def wsX6_laneAhead_r10 : List Cond := [Cond.methodLink RX1 37 Lib.Math.max.name, Cond.methodLink RX1 33 yX1_out, Cond.methodLink RX6 208 yX2_cellsOnOf, Cond.instanceMethod yX2_cellsOnOf, Cond.selects RX2 yX2_cellsOnOf yX2_cellsOnOf, Cond.code yX2_cellsOnOf cX2_cellsOnOf 4 (some .int)]
def wsX6_laneAhead : List Cond := .code yX6_laneAhead cX6_laneAhead 5 (some .int) :: ((wsX6_laneAhead_r1 ++ (wsX6_laneAhead_r2 ++ (wsX6_laneAhead_r3 ++ (wsX6_laneAhead_r4 ++ (wsX6_laneAhead_r5 ++ (wsX6_laneAhead_r6 ++ (wsX6_laneAhead_r7 ++ (wsX6_laneAhead_r8 ++ (wsX6_laneAhead_r9 ++ wsX6_laneAhead_r10))))))))) ++ wsX60 ++ wsX30 ++ wsX20 ++ wsX10 ++ wsX00)
def wsX6_bufferAhead_r1 : List Cond := [Cond.fieldLink RX6 30 "HopCredits" "apart" "LHopCredits$Net;", Cond.methodLink RX6 211 yX6_isNode, Cond.instanceMethod yX6_isNode, Cond.selects RX6 yX6_isNode yX6_isNode, Cond.initialized RX6, Cond.code yX6_isNode cX6_isNode 2 (some .boolean), Cond.fieldLink RX6 70 "HopCredits" "laid" "Z", Cond.fieldLink RX6 26 "HopCredits" "now" "LHopCredits$Net;", Cond.fieldLink RX6 78 "HopCredits$Net" "hops" "I", Cond.methodLink RX6 135 yX6_isCircuit, Cond.instanceMethod yX6_isCircuit, Cond.selects RX6 yX6_isCircuit yX6_isCircuit, Cond.code yX6_isCircuit cX6_isCircuit 2 (some .boolean), Cond.fieldLink RX6 74 "HopCredits$Net" "circuits" "I", Cond.methodLink RX6 55 yX6_outside, Cond.static yX6_outside, Cond.code yX6_outside cX6_outside 3 (some .boolean), Cond.methodLink RX6 267 yX6_goApart, Cond.instanceMethod yX6_goApart, Cond.selects RX6 yX6_goApart yX6_goApart, Cond.code yX6_goApart cX6_goApart 2 none, Cond.methodLink RX6 270 yX3_copy, Cond.instanceMethod yX3_copy, Cond.selects RX3 yX3_copy yX3_copy]
def wsX6_bufferAhead_r2 : List Cond := [Cond.initialized RX3, Cond.code yX3_copy cX3_copy 3 none, Cond.fieldLink RX3 53 "HopCredits$Net" "hops" "I", Cond.fieldLink RX3 62 "HopCredits$Net" "circuits" "I", Cond.fieldLink RX3 59 "HopCredits$Net" "reserve" "I", Cond.fieldLink RX3 46 "HopCredits$Net" "adapts" "I", Cond.fieldLink RX3 50 "HopCredits$Net" "probes" "I", Cond.fieldLink RX3 78 "HopCredits$Net" "tick" "I", Cond.fieldLink RX3 81 "HopCredits$Net" "lost" "I", Cond.fieldLink RX3 84 "HopCredits$Net" "probesSent" "I", Cond.fieldLink RX3 11 "HopCredits$Net" "links" "[LHopCredits$Link;", Cond.fieldLink RX3 19 "HopCredits$Net" "flows" "[LHopCredits$Flow;", Cond.fieldLink RX3 23 "HopCredits$Net" "buffers" "[I", Cond.methodLink RX3 94 arraycopyName, Cond.native arraycopyName, Cond.static arraycopyName, Cond.initialized "java/lang/System", Cond.methodLink RX3 87 yX2_copy, Cond.instanceMethod yX2_copy, Cond.selects RX2 yX2_copy yX2_copy, Cond.initialized RX2, Cond.code yX2_copy cX2_copy 3 none, Cond.fieldLink RX2 28 "HopCredits$Link" "delay" "I", Cond.fieldLink RX2 32 "HopCredits$Link" "pool" "I"]
def wsX6_bufferAhead_r3 : List Cond := [Cond.fieldLink RX2 35 "HopCredits$Link" "every" "I", Cond.fieldLink RX2 38 "HopCredits$Link" "jammed" "I", Cond.fieldLink RX2 41 "HopCredits$Link" "latest" "I", Cond.fieldLink RX2 44 "HopCredits$Link" "sender" "I", Cond.fieldLink RX2 9 "HopCredits$Link" "cellAt" "[I", Cond.methodLink RX2 54 arraycopyName, Cond.fieldLink RX2 15 "HopCredits$Link" "updateAt" "[I", Cond.fieldLink RX2 18 "HopCredits$Link" "probesAt" "[I", Cond.fieldLink RX2 23 "HopCredits$Link" "lanes" "[LHopCredits$Lane;", Cond.methodLink RX2 60 yX1_copy, Cond.instanceMethod yX1_copy, Cond.selects RX1 yX1_copy yX1_copy, Cond.initialized RX1, Cond.code yX1_copy cX1_copy 2 none, Cond.fieldLink RX1 9 "HopCredits$Lane" "sent" "I", Cond.fieldLink RX1 15 "HopCredits$Lane" "gone" "I", Cond.fieldLink RX1 18 "HopCredits$Lane" "known" "I", Cond.fieldLink RX1 21 "HopCredits$Lane" "zone" "I", Cond.fieldLink RX1 24 "HopCredits$Lane" "waited" "I", Cond.fieldLink RX1 27 "HopCredits$Lane" "sinceUpdate" "I", Cond.fieldLink RX1 30 "HopCredits$Lane" "sinceAdapt" "I", Cond.methodLink RX3 91 yX0_copy, Cond.instanceMethod yX0_copy, Cond.selects RX0 yX0_copy yX0_copy]
def wsX6_bufferAhead_r4 : List Cond := [Cond.initialized RX0, Cond.code yX0_copy cX0_copy 2 none, Cond.fieldLink RX0 7 "HopCredits$Flow" "gap" "I", Cond.fieldLink RX0 13 "HopCredits$Flow" "start" "I", Cond.fieldLink RX0 16 "HopCredits$Flow" "takes" "I", Cond.fieldLink RX0 19 "HopCredits$Flow" "came" "I", Cond.fieldLink RX0 22 "HopCredits$Flow" "spilt" "I", Cond.fieldLink RX0 25 "HopCredits$Flow" "delivered" "I", Cond.fieldLink RX0 28 "HopCredits$Flow" "cameNow" "Z", Cond.fieldLink RX0 32 "HopCredits$Flow" "deliveredNow" "Z", Cond.methodLink RX6 274 yX3_steps, Cond.instanceMethod yX3_steps, Cond.selects RX3 yX3_steps yX3_steps, Cond.code yX3_steps cX3_steps 3 none, Cond.methodLink RX3 100 yX3_step, Cond.instanceMethod yX3_step, Cond.selects RX3 yX3_step yX3_step, Cond.code yX3_step cX3_step 2 none, Cond.methodLink RX3 103 yX3_arriveOver, Cond.instanceMethod yX3_arriveOver, Cond.selects RX3 yX3_arriveOver yX3_arriveOver, Cond.code yX3_arriveOver cX3_arriveOver 9 none, Cond.fieldLink RX3 122 "HopCredits$Link" "cellAt" "[I", Cond.fieldLink RX3 125 "HopCredits$Link" "updateAt" "[I"]
def wsX6_bufferAhead_r5 : List Cond := [Cond.fieldLink RX3 128 "HopCredits$Link" "lanes" "[LHopCredits$Lane;", Cond.fieldLink RX3 137 "HopCredits$Link" "probesAt" "[I", Cond.methodLink RX3 132 yX1_hear, Cond.instanceMethod yX1_hear, Cond.selects RX1 yX1_hear yX1_hear, Cond.code yX1_hear cX1_hear 2 none, Cond.static yX6_reaches, Cond.code yX6_reaches cX6_reaches 2 (some .boolean), Cond.methodLink RX3 140 yX3_sendUpdate, Cond.instanceMethod yX3_sendUpdate, Cond.selects RX3 yX3_sendUpdate yX3_sendUpdate, Cond.code yX3_sendUpdate cX3_sendUpdate 3 none, Cond.fieldLink RX3 207 "HopCredits$Link" "jammed" "I", Cond.fieldLink RX3 183 "HopCredits$Link" "delay" "I", Cond.fieldLink RX3 198 "HopCredits$Lane" "gone" "I", Cond.methodLink RX3 144 yX2_clearSlot, Cond.instanceMethod yX2_clearSlot, Cond.selects RX2 yX2_clearSlot yX2_clearSlot, Cond.code yX2_clearSlot cX2_clearSlot 3 none, Cond.methodLink RX3 107 yX3_come, Cond.instanceMethod yX3_come, Cond.selects RX3 yX3_come yX3_come, Cond.code yX3_come cX3_come 3 none, Cond.fieldLink RX3 147 "HopCredits$Flow" "cameNow" "Z"]
def wsX6_bufferAhead_r6 : List Cond := [Cond.fieldLink RX3 155 "HopCredits$Flow" "came" "I", Cond.fieldLink RX3 158 "HopCredits$Flow" "spilt" "I", Cond.methodLink RX3 151 yX0_comesIn, Cond.instanceMethod yX0_comesIn, Cond.selects RX0 yX0_comesIn yX0_comesIn, Cond.code yX0_comesIn cX0_comesIn 2 (some .boolean), Cond.methodLink RX3 110 yX3_take, Cond.instanceMethod yX3_take, Cond.selects RX3 yX3_take yX3_take, Cond.code yX3_take cX3_take 4 none, Cond.fieldLink RX3 164 "HopCredits$Flow" "deliveredNow" "Z", Cond.fieldLink RX3 167 "HopCredits$Flow" "delivered" "I", Cond.methodLink RX3 161 yX0_takesIn, Cond.instanceMethod yX0_takesIn, Cond.selects RX0 yX0_takesIn yX0_takesIn, Cond.code yX0_takesIn cX0_takesIn 2 (some .boolean), Cond.methodLink RX3 170 yX3_goneFrom, Cond.instanceMethod yX3_goneFrom, Cond.selects RX3 yX3_goneFrom yX3_goneFrom, Cond.code yX3_goneFrom cX3_goneFrom 5 none, Cond.fieldLink RX3 201 "HopCredits$Lane" "sinceUpdate" "I", Cond.fieldLink RX3 204 "HopCredits$Link" "every" "I", Cond.methodLink RX3 113 yX3_sendOver, Cond.instanceMethod yX3_sendOver]
def wsX6_bufferAhead_r7 : List Cond := [Cond.selects RX3 yX3_sendOver yX3_sendOver, Cond.code yX3_sendOver cX3_sendOver 5 none, Cond.fieldLink RX3 177 "HopCredits$Link" "sender" "I", Cond.fieldLink RX3 180 "HopCredits$Link" "latest" "I", Cond.fieldLink RX3 186 "HopCredits$Lane" "sent" "I", Cond.fieldLink RX3 189 "HopCredits$Lane" "sinceAdapt" "I", Cond.methodLink RX3 174 yX3_nextSender, Cond.instanceMethod yX3_nextSender, Cond.selects RX3 yX3_nextSender yX3_nextSender, Cond.code yX3_nextSender cX3_nextSender 6 (some .int), Cond.fieldLink RX3 195 "HopCredits$Lane" "zone" "I", Cond.methodLink RX3 192 yX1_out, Cond.instanceMethod yX1_out, Cond.selects RX1 yX1_out yX1_out, Cond.code yX1_out cX1_out 1 (some .int), Cond.methodLink RX3 116 yX3_waitAt, Cond.instanceMethod yX3_waitAt, Cond.selects RX3 yX3_waitAt yX3_waitAt, Cond.code yX3_waitAt cX3_waitAt 4 none, Cond.fieldLink RX3 210 "HopCredits$Lane" "waited" "I", Cond.methodLink RX3 213 yX3_lacksCredit, Cond.instanceMethod yX3_lacksCredit, Cond.selects RX3 yX3_lacksCredit yX3_lacksCredit, Cond.code yX3_lacksCredit cX3_lacksCredit 3 (some .boolean)]
def wsX6_bufferAhead_r8 : List Cond := [Cond.methodLink RX3 217 yX3_sendProbe, Cond.instanceMethod yX3_sendProbe, Cond.selects RX3 yX3_sendProbe yX3_sendProbe, Cond.code yX3_sendProbe cX3_sendProbe 3 none, Cond.methodLink RX3 119 yX3_adapt, Cond.instanceMethod yX3_adapt, Cond.selects RX3 yX3_adapt yX3_adapt, Cond.code yX3_adapt cX3_adapt 5 none, Cond.methodLink RX3 224 Lib.Math.min.name, Cond.static Lib.Math.min.name, Cond.initialized "java/lang/Math", Cond.code Lib.Math.min.name Lib.Math.min.code 2 (some .int), Cond.methodLink RX3 64 Lib.Math.max.name, Cond.static Lib.Math.max.name, Cond.code Lib.Math.max.name Lib.Math.max.code 2 (some .int), Cond.methodLink RX3 220 yX3_aimOf, Cond.instanceMethod yX3_aimOf, Cond.selects RX3 yX3_aimOf yX3_aimOf, Cond.code yX3_aimOf cX3_aimOf 5 (some .int), Cond.fieldLink RX3 230 "HopCredits$Link" "pool" "I", Cond.methodLink RX3 227 yX2_roomFor, Cond.instanceMethod yX2_roomFor, Cond.selects RX2 yX2_roomFor yX2_roomFor, Cond.code yX2_roomFor cX2_roomFor 5 (some .int)]
def wsX6_bufferAhead_r9 : List Cond := [Cond.fieldLink RX2 64 "HopCredits$Lane" "zone" "I", Cond.methodLink RX2 71 Lib.Math.max.name, Cond.methodLink RX2 67 yX1_out, Cond.methodLink RX6 214 yX3_waitingAt, Cond.instanceMethod yX3_waitingAt, Cond.selects RX3 yX3_waitingAt yX3_waitingAt, Cond.code yX3_waitingAt cX3_waitingAt 3 (some .int)]
def wsX6_bufferAhead : List Cond := .code yX6_bufferAhead cX6_bufferAhead 4 (some .int) :: ((wsX6_bufferAhead_r1 ++ (wsX6_bufferAhead_r2 ++ (wsX6_bufferAhead_r3 ++ (wsX6_bufferAhead_r4 ++ (wsX6_bufferAhead_r5 ++ (wsX6_bufferAhead_r6 ++ (wsX6_bufferAhead_r7 ++ (wsX6_bufferAhead_r8 ++ wsX6_bufferAhead_r9)))))))) ++ wsX60 ++ wsX30 ++ wsX20 ++ wsX10 ++ wsX00)
def wsX6_delivered_r1 : List Cond := [Cond.fieldLink RX6 70 "HopCredits" "laid" "Z", Cond.methodLink RX6 55 yX6_outside, Cond.static yX6_outside, Cond.initialized RX6, Cond.code yX6_outside cX6_outside 3 (some .boolean), Cond.methodLink RX6 135 yX6_isCircuit, Cond.instanceMethod yX6_isCircuit, Cond.selects RX6 yX6_isCircuit yX6_isCircuit, Cond.code yX6_isCircuit cX6_isCircuit 2 (some .boolean), Cond.fieldLink RX6 26 "HopCredits" "now" "LHopCredits$Net;", Cond.fieldLink RX6 74 "HopCredits$Net" "circuits" "I", Cond.methodLink RX6 267 yX6_goApart, Cond.instanceMethod yX6_goApart, Cond.selects RX6 yX6_goApart yX6_goApart, Cond.code yX6_goApart cX6_goApart 2 none, Cond.fieldLink RX6 30 "HopCredits" "apart" "LHopCredits$Net;", Cond.methodLink RX6 270 yX3_copy, Cond.instanceMethod yX3_copy, Cond.selects RX3 yX3_copy yX3_copy, Cond.initialized RX3, Cond.code yX3_copy cX3_copy 3 none, Cond.fieldLink RX3 53 "HopCredits$Net" "hops" "I", Cond.fieldLink RX3 62 "HopCredits$Net" "circuits" "I", Cond.fieldLink RX3 59 "HopCredits$Net" "reserve" "I"]
def wsX6_delivered_r2 : List Cond := [Cond.fieldLink RX3 46 "HopCredits$Net" "adapts" "I", Cond.fieldLink RX3 50 "HopCredits$Net" "probes" "I", Cond.fieldLink RX3 78 "HopCredits$Net" "tick" "I", Cond.fieldLink RX3 81 "HopCredits$Net" "lost" "I", Cond.fieldLink RX3 84 "HopCredits$Net" "probesSent" "I", Cond.fieldLink RX3 11 "HopCredits$Net" "links" "[LHopCredits$Link;", Cond.fieldLink RX3 19 "HopCredits$Net" "flows" "[LHopCredits$Flow;", Cond.fieldLink RX3 23 "HopCredits$Net" "buffers" "[I", Cond.methodLink RX3 94 arraycopyName, Cond.native arraycopyName, Cond.static arraycopyName, Cond.initialized "java/lang/System", Cond.methodLink RX3 87 yX2_copy, Cond.instanceMethod yX2_copy, Cond.selects RX2 yX2_copy yX2_copy, Cond.initialized RX2, Cond.code yX2_copy cX2_copy 3 none, Cond.fieldLink RX2 28 "HopCredits$Link" "delay" "I", Cond.fieldLink RX2 32 "HopCredits$Link" "pool" "I", Cond.fieldLink RX2 35 "HopCredits$Link" "every" "I", Cond.fieldLink RX2 38 "HopCredits$Link" "jammed" "I", Cond.fieldLink RX2 41 "HopCredits$Link" "latest" "I", Cond.fieldLink RX2 44 "HopCredits$Link" "sender" "I", Cond.fieldLink RX2 9 "HopCredits$Link" "cellAt" "[I"]
def wsX6_delivered_r3 : List Cond := [Cond.methodLink RX2 54 arraycopyName, Cond.fieldLink RX2 15 "HopCredits$Link" "updateAt" "[I", Cond.fieldLink RX2 18 "HopCredits$Link" "probesAt" "[I", Cond.fieldLink RX2 23 "HopCredits$Link" "lanes" "[LHopCredits$Lane;", Cond.methodLink RX2 60 yX1_copy, Cond.instanceMethod yX1_copy, Cond.selects RX1 yX1_copy yX1_copy, Cond.initialized RX1, Cond.code yX1_copy cX1_copy 2 none, Cond.fieldLink RX1 9 "HopCredits$Lane" "sent" "I", Cond.fieldLink RX1 15 "HopCredits$Lane" "gone" "I", Cond.fieldLink RX1 18 "HopCredits$Lane" "known" "I", Cond.fieldLink RX1 21 "HopCredits$Lane" "zone" "I", Cond.fieldLink RX1 24 "HopCredits$Lane" "waited" "I", Cond.fieldLink RX1 27 "HopCredits$Lane" "sinceUpdate" "I", Cond.fieldLink RX1 30 "HopCredits$Lane" "sinceAdapt" "I", Cond.methodLink RX3 91 yX0_copy, Cond.instanceMethod yX0_copy, Cond.selects RX0 yX0_copy yX0_copy, Cond.initialized RX0, Cond.code yX0_copy cX0_copy 2 none, Cond.fieldLink RX0 7 "HopCredits$Flow" "gap" "I", Cond.fieldLink RX0 13 "HopCredits$Flow" "start" "I", Cond.fieldLink RX0 16 "HopCredits$Flow" "takes" "I"]
def wsX6_delivered_r4 : List Cond := [Cond.fieldLink RX0 19 "HopCredits$Flow" "came" "I", Cond.fieldLink RX0 22 "HopCredits$Flow" "spilt" "I", Cond.fieldLink RX0 25 "HopCredits$Flow" "delivered" "I", Cond.fieldLink RX0 28 "HopCredits$Flow" "cameNow" "Z", Cond.fieldLink RX0 32 "HopCredits$Flow" "deliveredNow" "Z", Cond.methodLink RX6 274 yX3_steps, Cond.instanceMethod yX3_steps, Cond.selects RX3 yX3_steps yX3_steps, Cond.code yX3_steps cX3_steps 3 none, Cond.methodLink RX3 100 yX3_step, Cond.instanceMethod yX3_step, Cond.selects RX3 yX3_step yX3_step, Cond.code yX3_step cX3_step 2 none, Cond.methodLink RX3 103 yX3_arriveOver, Cond.instanceMethod yX3_arriveOver, Cond.selects RX3 yX3_arriveOver yX3_arriveOver, Cond.code yX3_arriveOver cX3_arriveOver 9 none, Cond.fieldLink RX3 122 "HopCredits$Link" "cellAt" "[I", Cond.fieldLink RX3 125 "HopCredits$Link" "updateAt" "[I", Cond.fieldLink RX3 128 "HopCredits$Link" "lanes" "[LHopCredits$Lane;", Cond.fieldLink RX3 137 "HopCredits$Link" "probesAt" "[I", Cond.methodLink RX3 132 yX1_hear, Cond.instanceMethod yX1_hear, Cond.selects RX1 yX1_hear yX1_hear]
def wsX6_delivered_r5 : List Cond := [Cond.code yX1_hear cX1_hear 2 none, Cond.static yX6_reaches, Cond.code yX6_reaches cX6_reaches 2 (some .boolean), Cond.methodLink RX3 140 yX3_sendUpdate, Cond.instanceMethod yX3_sendUpdate, Cond.selects RX3 yX3_sendUpdate yX3_sendUpdate, Cond.code yX3_sendUpdate cX3_sendUpdate 3 none, Cond.fieldLink RX3 207 "HopCredits$Link" "jammed" "I", Cond.fieldLink RX3 183 "HopCredits$Link" "delay" "I", Cond.fieldLink RX3 198 "HopCredits$Lane" "gone" "I", Cond.methodLink RX3 144 yX2_clearSlot, Cond.instanceMethod yX2_clearSlot, Cond.selects RX2 yX2_clearSlot yX2_clearSlot, Cond.code yX2_clearSlot cX2_clearSlot 3 none, Cond.methodLink RX3 107 yX3_come, Cond.instanceMethod yX3_come, Cond.selects RX3 yX3_come yX3_come, Cond.code yX3_come cX3_come 3 none, Cond.fieldLink RX3 147 "HopCredits$Flow" "cameNow" "Z", Cond.fieldLink RX3 155 "HopCredits$Flow" "came" "I", Cond.fieldLink RX3 158 "HopCredits$Flow" "spilt" "I", Cond.methodLink RX3 151 yX0_comesIn, Cond.instanceMethod yX0_comesIn, Cond.selects RX0 yX0_comesIn yX0_comesIn]
def wsX6_delivered_r6 : List Cond := [Cond.code yX0_comesIn cX0_comesIn 2 (some .boolean), Cond.methodLink RX3 110 yX3_take, Cond.instanceMethod yX3_take, Cond.selects RX3 yX3_take yX3_take, Cond.code yX3_take cX3_take 4 none, Cond.fieldLink RX3 164 "HopCredits$Flow" "deliveredNow" "Z", Cond.fieldLink RX3 167 "HopCredits$Flow" "delivered" "I", Cond.methodLink RX3 161 yX0_takesIn, Cond.instanceMethod yX0_takesIn, Cond.selects RX0 yX0_takesIn yX0_takesIn, Cond.code yX0_takesIn cX0_takesIn 2 (some .boolean), Cond.methodLink RX3 170 yX3_goneFrom, Cond.instanceMethod yX3_goneFrom, Cond.selects RX3 yX3_goneFrom yX3_goneFrom, Cond.code yX3_goneFrom cX3_goneFrom 5 none, Cond.fieldLink RX3 201 "HopCredits$Lane" "sinceUpdate" "I", Cond.fieldLink RX3 204 "HopCredits$Link" "every" "I", Cond.methodLink RX3 113 yX3_sendOver, Cond.instanceMethod yX3_sendOver, Cond.selects RX3 yX3_sendOver yX3_sendOver, Cond.code yX3_sendOver cX3_sendOver 5 none, Cond.fieldLink RX3 177 "HopCredits$Link" "sender" "I", Cond.fieldLink RX3 180 "HopCredits$Link" "latest" "I", Cond.fieldLink RX3 186 "HopCredits$Lane" "sent" "I"]
def wsX6_delivered_r7 : List Cond := [Cond.fieldLink RX3 189 "HopCredits$Lane" "sinceAdapt" "I", Cond.methodLink RX3 174 yX3_nextSender, Cond.instanceMethod yX3_nextSender, Cond.selects RX3 yX3_nextSender yX3_nextSender, Cond.code yX3_nextSender cX3_nextSender 6 (some .int), Cond.fieldLink RX3 195 "HopCredits$Lane" "zone" "I", Cond.methodLink RX3 192 yX1_out, Cond.instanceMethod yX1_out, Cond.selects RX1 yX1_out yX1_out, Cond.code yX1_out cX1_out 1 (some .int), Cond.methodLink RX3 116 yX3_waitAt, Cond.instanceMethod yX3_waitAt, Cond.selects RX3 yX3_waitAt yX3_waitAt, Cond.code yX3_waitAt cX3_waitAt 4 none, Cond.fieldLink RX3 210 "HopCredits$Lane" "waited" "I", Cond.methodLink RX3 213 yX3_lacksCredit, Cond.instanceMethod yX3_lacksCredit, Cond.selects RX3 yX3_lacksCredit yX3_lacksCredit, Cond.code yX3_lacksCredit cX3_lacksCredit 3 (some .boolean), Cond.methodLink RX3 217 yX3_sendProbe, Cond.instanceMethod yX3_sendProbe, Cond.selects RX3 yX3_sendProbe yX3_sendProbe, Cond.code yX3_sendProbe cX3_sendProbe 3 none, Cond.methodLink RX3 119 yX3_adapt]
def wsX6_delivered_r8 : List Cond := [Cond.instanceMethod yX3_adapt, Cond.selects RX3 yX3_adapt yX3_adapt, Cond.code yX3_adapt cX3_adapt 5 none, Cond.methodLink RX3 224 Lib.Math.min.name, Cond.static Lib.Math.min.name, Cond.initialized "java/lang/Math", Cond.code Lib.Math.min.name Lib.Math.min.code 2 (some .int), Cond.methodLink RX3 64 Lib.Math.max.name, Cond.static Lib.Math.max.name, Cond.code Lib.Math.max.name Lib.Math.max.code 2 (some .int), Cond.methodLink RX3 220 yX3_aimOf, Cond.instanceMethod yX3_aimOf, Cond.selects RX3 yX3_aimOf yX3_aimOf, Cond.code yX3_aimOf cX3_aimOf 5 (some .int), Cond.fieldLink RX3 230 "HopCredits$Link" "pool" "I", Cond.methodLink RX3 227 yX2_roomFor, Cond.instanceMethod yX2_roomFor, Cond.selects RX2 yX2_roomFor yX2_roomFor, Cond.code yX2_roomFor cX2_roomFor 5 (some .int), Cond.fieldLink RX2 64 "HopCredits$Lane" "zone" "I", Cond.methodLink RX2 71 Lib.Math.max.name, Cond.methodLink RX2 67 yX1_out, Cond.methodLink RX6 277 yX6_deliveredApart, Cond.instanceMethod yX6_deliveredApart]
def wsX6_delivered_r9 : List Cond := [Cond.selects RX6 yX6_deliveredApart yX6_deliveredApart, Cond.code yX6_deliveredApart cX6_deliveredApart 1 (some .int), Cond.methodLink RX6 283 yX3_deliveredOfAll, Cond.instanceMethod yX3_deliveredOfAll, Cond.selects RX3 yX3_deliveredOfAll yX3_deliveredOfAll, Cond.code yX3_deliveredOfAll cX3_deliveredOfAll 3 (some .int), Cond.methodLink RX6 280 yX6_deliveredApartOf, Cond.instanceMethod yX6_deliveredApartOf, Cond.selects RX6 yX6_deliveredApartOf yX6_deliveredApartOf, Cond.code yX6_deliveredApartOf cX6_deliveredApartOf 2 (some .int), Cond.fieldLink RX6 140 "HopCredits$Net" "flows" "[LHopCredits$Flow;", Cond.fieldLink RX6 161 "HopCredits$Flow" "delivered" "I"]
def wsX6_delivered : List Cond := .code yX6_delivered cX6_delivered 3 (some .int) :: ((wsX6_delivered_r1 ++ (wsX6_delivered_r2 ++ (wsX6_delivered_r3 ++ (wsX6_delivered_r4 ++ (wsX6_delivered_r5 ++ (wsX6_delivered_r6 ++ (wsX6_delivered_r7 ++ (wsX6_delivered_r8 ++ wsX6_delivered_r9)))))))) ++ wsX60 ++ wsX30 ++ wsX20 ++ wsX10 ++ wsX00)
def wsX6_heldUp_r1 : List Cond := [Cond.fieldLink RX6 30 "HopCredits" "apart" "LHopCredits$Net;", Cond.fieldLink RX6 26 "HopCredits" "now" "LHopCredits$Net;", Cond.fieldLink RX6 104 "HopCredits$Net" "links" "[LHopCredits$Link;", Cond.fieldLink RX6 286 "HopCredits$Link" "sender" "I", Cond.methodLink RX6 167 yX6_isLane, Cond.instanceMethod yX6_isLane, Cond.selects RX6 yX6_isLane yX6_isLane, Cond.initialized RX6, Cond.code yX6_isLane cX6_isLane 3 (some .boolean), Cond.methodLink RX6 93 yX6_isHop, Cond.instanceMethod yX6_isHop, Cond.selects RX6 yX6_isHop yX6_isHop, Cond.code yX6_isHop cX6_isHop 2 (some .boolean), Cond.fieldLink RX6 70 "HopCredits" "laid" "Z", Cond.fieldLink RX6 78 "HopCredits$Net" "hops" "I", Cond.methodLink RX6 135 yX6_isCircuit, Cond.instanceMethod yX6_isCircuit, Cond.selects RX6 yX6_isCircuit yX6_isCircuit, Cond.code yX6_isCircuit cX6_isCircuit 2 (some .boolean), Cond.fieldLink RX6 74 "HopCredits$Net" "circuits" "I", Cond.methodLink RX6 270 yX3_copy, Cond.instanceMethod yX3_copy, Cond.selects RX3 yX3_copy yX3_copy, Cond.initialized RX3]
def wsX6_heldUp_r2 : List Cond := [Cond.code yX3_copy cX3_copy 3 none, Cond.fieldLink RX3 53 "HopCredits$Net" "hops" "I", Cond.fieldLink RX3 62 "HopCredits$Net" "circuits" "I", Cond.fieldLink RX3 59 "HopCredits$Net" "reserve" "I", Cond.fieldLink RX3 46 "HopCredits$Net" "adapts" "I", Cond.fieldLink RX3 50 "HopCredits$Net" "probes" "I", Cond.fieldLink RX3 78 "HopCredits$Net" "tick" "I", Cond.fieldLink RX3 81 "HopCredits$Net" "lost" "I", Cond.fieldLink RX3 84 "HopCredits$Net" "probesSent" "I", Cond.fieldLink RX3 11 "HopCredits$Net" "links" "[LHopCredits$Link;", Cond.fieldLink RX3 19 "HopCredits$Net" "flows" "[LHopCredits$Flow;", Cond.fieldLink RX3 23 "HopCredits$Net" "buffers" "[I", Cond.methodLink RX3 94 arraycopyName, Cond.native arraycopyName, Cond.static arraycopyName, Cond.initialized "java/lang/System", Cond.methodLink RX3 87 yX2_copy, Cond.instanceMethod yX2_copy, Cond.selects RX2 yX2_copy yX2_copy, Cond.initialized RX2, Cond.code yX2_copy cX2_copy 3 none, Cond.fieldLink RX2 28 "HopCredits$Link" "delay" "I", Cond.fieldLink RX2 32 "HopCredits$Link" "pool" "I", Cond.fieldLink RX2 35 "HopCredits$Link" "every" "I"]
def wsX6_heldUp_r3 : List Cond := [Cond.fieldLink RX2 38 "HopCredits$Link" "jammed" "I", Cond.fieldLink RX2 41 "HopCredits$Link" "latest" "I", Cond.fieldLink RX2 44 "HopCredits$Link" "sender" "I", Cond.fieldLink RX2 9 "HopCredits$Link" "cellAt" "[I", Cond.methodLink RX2 54 arraycopyName, Cond.fieldLink RX2 15 "HopCredits$Link" "updateAt" "[I", Cond.fieldLink RX2 18 "HopCredits$Link" "probesAt" "[I", Cond.fieldLink RX2 23 "HopCredits$Link" "lanes" "[LHopCredits$Lane;", Cond.methodLink RX2 60 yX1_copy, Cond.instanceMethod yX1_copy, Cond.selects RX1 yX1_copy yX1_copy, Cond.initialized RX1, Cond.code yX1_copy cX1_copy 2 none, Cond.fieldLink RX1 9 "HopCredits$Lane" "sent" "I", Cond.fieldLink RX1 15 "HopCredits$Lane" "gone" "I", Cond.fieldLink RX1 18 "HopCredits$Lane" "known" "I", Cond.fieldLink RX1 21 "HopCredits$Lane" "zone" "I", Cond.fieldLink RX1 24 "HopCredits$Lane" "waited" "I", Cond.fieldLink RX1 27 "HopCredits$Lane" "sinceUpdate" "I", Cond.fieldLink RX1 30 "HopCredits$Lane" "sinceAdapt" "I", Cond.methodLink RX3 91 yX0_copy, Cond.instanceMethod yX0_copy, Cond.selects RX0 yX0_copy yX0_copy, Cond.initialized RX0]
def wsX6_heldUp_r4 : List Cond := [Cond.code yX0_copy cX0_copy 2 none, Cond.fieldLink RX0 7 "HopCredits$Flow" "gap" "I", Cond.fieldLink RX0 13 "HopCredits$Flow" "start" "I", Cond.fieldLink RX0 16 "HopCredits$Flow" "takes" "I", Cond.fieldLink RX0 19 "HopCredits$Flow" "came" "I", Cond.fieldLink RX0 22 "HopCredits$Flow" "spilt" "I", Cond.fieldLink RX0 25 "HopCredits$Flow" "delivered" "I", Cond.fieldLink RX0 28 "HopCredits$Flow" "cameNow" "Z", Cond.fieldLink RX0 32 "HopCredits$Flow" "deliveredNow" "Z", Cond.methodLink RX6 233 yX3_step, Cond.instanceMethod yX3_step, Cond.selects RX3 yX3_step yX3_step, Cond.code yX3_step cX3_step 2 none, Cond.methodLink RX3 103 yX3_arriveOver, Cond.instanceMethod yX3_arriveOver, Cond.selects RX3 yX3_arriveOver yX3_arriveOver, Cond.code yX3_arriveOver cX3_arriveOver 9 none, Cond.fieldLink RX3 122 "HopCredits$Link" "cellAt" "[I", Cond.fieldLink RX3 125 "HopCredits$Link" "updateAt" "[I", Cond.fieldLink RX3 128 "HopCredits$Link" "lanes" "[LHopCredits$Lane;", Cond.fieldLink RX3 137 "HopCredits$Link" "probesAt" "[I", Cond.methodLink RX3 132 yX1_hear, Cond.instanceMethod yX1_hear, Cond.selects RX1 yX1_hear yX1_hear]
def wsX6_heldUp_r5 : List Cond := [Cond.code yX1_hear cX1_hear 2 none, Cond.static yX6_reaches, Cond.code yX6_reaches cX6_reaches 2 (some .boolean), Cond.methodLink RX3 140 yX3_sendUpdate, Cond.instanceMethod yX3_sendUpdate, Cond.selects RX3 yX3_sendUpdate yX3_sendUpdate, Cond.code yX3_sendUpdate cX3_sendUpdate 3 none, Cond.fieldLink RX3 207 "HopCredits$Link" "jammed" "I", Cond.fieldLink RX3 183 "HopCredits$Link" "delay" "I", Cond.fieldLink RX3 198 "HopCredits$Lane" "gone" "I", Cond.methodLink RX3 144 yX2_clearSlot, Cond.instanceMethod yX2_clearSlot, Cond.selects RX2 yX2_clearSlot yX2_clearSlot, Cond.code yX2_clearSlot cX2_clearSlot 3 none, Cond.methodLink RX3 107 yX3_come, Cond.instanceMethod yX3_come, Cond.selects RX3 yX3_come yX3_come, Cond.code yX3_come cX3_come 3 none, Cond.fieldLink RX3 147 "HopCredits$Flow" "cameNow" "Z", Cond.fieldLink RX3 155 "HopCredits$Flow" "came" "I", Cond.fieldLink RX3 158 "HopCredits$Flow" "spilt" "I", Cond.methodLink RX3 151 yX0_comesIn, Cond.instanceMethod yX0_comesIn, Cond.selects RX0 yX0_comesIn yX0_comesIn]
def wsX6_heldUp_r6 : List Cond := [Cond.code yX0_comesIn cX0_comesIn 2 (some .boolean), Cond.methodLink RX3 110 yX3_take, Cond.instanceMethod yX3_take, Cond.selects RX3 yX3_take yX3_take, Cond.code yX3_take cX3_take 4 none, Cond.fieldLink RX3 164 "HopCredits$Flow" "deliveredNow" "Z", Cond.fieldLink RX3 167 "HopCredits$Flow" "delivered" "I", Cond.methodLink RX3 161 yX0_takesIn, Cond.instanceMethod yX0_takesIn, Cond.selects RX0 yX0_takesIn yX0_takesIn, Cond.code yX0_takesIn cX0_takesIn 2 (some .boolean), Cond.methodLink RX3 170 yX3_goneFrom, Cond.instanceMethod yX3_goneFrom, Cond.selects RX3 yX3_goneFrom yX3_goneFrom, Cond.code yX3_goneFrom cX3_goneFrom 5 none, Cond.fieldLink RX3 201 "HopCredits$Lane" "sinceUpdate" "I", Cond.fieldLink RX3 204 "HopCredits$Link" "every" "I", Cond.methodLink RX3 113 yX3_sendOver, Cond.instanceMethod yX3_sendOver, Cond.selects RX3 yX3_sendOver yX3_sendOver, Cond.code yX3_sendOver cX3_sendOver 5 none, Cond.fieldLink RX3 177 "HopCredits$Link" "sender" "I", Cond.fieldLink RX3 180 "HopCredits$Link" "latest" "I", Cond.fieldLink RX3 186 "HopCredits$Lane" "sent" "I"]
def wsX6_heldUp_r7 : List Cond := [Cond.fieldLink RX3 189 "HopCredits$Lane" "sinceAdapt" "I", Cond.methodLink RX3 174 yX3_nextSender, Cond.instanceMethod yX3_nextSender, Cond.selects RX3 yX3_nextSender yX3_nextSender, Cond.code yX3_nextSender cX3_nextSender 6 (some .int), Cond.fieldLink RX3 195 "HopCredits$Lane" "zone" "I", Cond.methodLink RX3 192 yX1_out, Cond.instanceMethod yX1_out, Cond.selects RX1 yX1_out yX1_out, Cond.code yX1_out cX1_out 1 (some .int), Cond.methodLink RX3 116 yX3_waitAt, Cond.instanceMethod yX3_waitAt, Cond.selects RX3 yX3_waitAt yX3_waitAt, Cond.code yX3_waitAt cX3_waitAt 4 none, Cond.fieldLink RX3 210 "HopCredits$Lane" "waited" "I", Cond.methodLink RX3 213 yX3_lacksCredit, Cond.instanceMethod yX3_lacksCredit, Cond.selects RX3 yX3_lacksCredit yX3_lacksCredit, Cond.code yX3_lacksCredit cX3_lacksCredit 3 (some .boolean), Cond.methodLink RX3 217 yX3_sendProbe, Cond.instanceMethod yX3_sendProbe, Cond.selects RX3 yX3_sendProbe yX3_sendProbe, Cond.code yX3_sendProbe cX3_sendProbe 3 none, Cond.methodLink RX3 119 yX3_adapt]
def wsX6_heldUp_r8 : List Cond := [Cond.instanceMethod yX3_adapt, Cond.selects RX3 yX3_adapt yX3_adapt, Cond.code yX3_adapt cX3_adapt 5 none, Cond.methodLink RX3 224 Lib.Math.min.name, Cond.static Lib.Math.min.name, Cond.initialized "java/lang/Math", Cond.code Lib.Math.min.name Lib.Math.min.code 2 (some .int), Cond.methodLink RX3 64 Lib.Math.max.name, Cond.static Lib.Math.max.name, Cond.code Lib.Math.max.name Lib.Math.max.code 2 (some .int), Cond.methodLink RX3 220 yX3_aimOf, Cond.instanceMethod yX3_aimOf, Cond.selects RX3 yX3_aimOf yX3_aimOf, Cond.code yX3_aimOf cX3_aimOf 5 (some .int), Cond.fieldLink RX3 230 "HopCredits$Link" "pool" "I", Cond.methodLink RX3 227 yX2_roomFor, Cond.instanceMethod yX2_roomFor, Cond.selects RX2 yX2_roomFor yX2_roomFor, Cond.code yX2_roomFor cX2_roomFor 5 (some .int), Cond.fieldLink RX2 64 "HopCredits$Lane" "zone" "I", Cond.methodLink RX2 71 Lib.Math.max.name, Cond.methodLink RX2 67 yX1_out]
def wsX6_heldUp : List Cond := .code yX6_heldUp cX6_heldUp 4 (some .int) :: ((wsX6_heldUp_r1 ++ (wsX6_heldUp_r2 ++ (wsX6_heldUp_r3 ++ (wsX6_heldUp_r4 ++ (wsX6_heldUp_r5 ++ (wsX6_heldUp_r6 ++ (wsX6_heldUp_r7 ++ wsX6_heldUp_r8))))))) ++ wsX60 ++ wsX30 ++ wsX20 ++ wsX10 ++ wsX00)
def wsX6_idle_r1 : List Cond := [Cond.fieldLink RX6 39 "HopCredits" "tally" "[I", Cond.methodLink RX6 93 yX6_isHop, Cond.instanceMethod yX6_isHop, Cond.selects RX6 yX6_isHop yX6_isHop, Cond.initialized RX6, Cond.code yX6_isHop cX6_isHop 2 (some .boolean), Cond.fieldLink RX6 70 "HopCredits" "laid" "Z", Cond.fieldLink RX6 26 "HopCredits" "now" "LHopCredits$Net;", Cond.fieldLink RX6 78 "HopCredits$Net" "hops" "I", Cond.methodLink RX6 55 yX6_outside, Cond.static yX6_outside, Cond.code yX6_outside cX6_outside 3 (some .boolean), Cond.methodLink RX6 289 yX6_tallyIdle, Cond.instanceMethod yX6_tallyIdle, Cond.selects RX6 yX6_tallyIdle yX6_tallyIdle, Cond.code yX6_tallyIdle cX6_tallyIdle 4 none, Cond.fieldLink RX6 30 "HopCredits" "apart" "LHopCredits$Net;", Cond.fieldLink RX6 104 "HopCredits$Net" "links" "[LHopCredits$Link;", Cond.fieldLink RX6 286 "HopCredits$Link" "sender" "I", Cond.methodLink RX6 292 yX6_clearTally, Cond.instanceMethod yX6_clearTally, Cond.selects RX6 yX6_clearTally yX6_clearTally, Cond.code yX6_clearTally cX6_clearTally 2 none, Cond.methodLink RX6 270 yX3_copy]
def wsX6_idle_r2 : List Cond := [Cond.instanceMethod yX3_copy, Cond.selects RX3 yX3_copy yX3_copy, Cond.initialized RX3, Cond.code yX3_copy cX3_copy 3 none, Cond.fieldLink RX3 53 "HopCredits$Net" "hops" "I", Cond.fieldLink RX3 62 "HopCredits$Net" "circuits" "I", Cond.fieldLink RX3 59 "HopCredits$Net" "reserve" "I", Cond.fieldLink RX3 46 "HopCredits$Net" "adapts" "I", Cond.fieldLink RX3 50 "HopCredits$Net" "probes" "I", Cond.fieldLink RX3 78 "HopCredits$Net" "tick" "I", Cond.fieldLink RX3 81 "HopCredits$Net" "lost" "I", Cond.fieldLink RX3 84 "HopCredits$Net" "probesSent" "I", Cond.fieldLink RX3 11 "HopCredits$Net" "links" "[LHopCredits$Link;", Cond.fieldLink RX3 19 "HopCredits$Net" "flows" "[LHopCredits$Flow;", Cond.fieldLink RX3 23 "HopCredits$Net" "buffers" "[I", Cond.methodLink RX3 94 arraycopyName, Cond.native arraycopyName, Cond.static arraycopyName, Cond.initialized "java/lang/System", Cond.methodLink RX3 87 yX2_copy, Cond.instanceMethod yX2_copy, Cond.selects RX2 yX2_copy yX2_copy, Cond.initialized RX2, Cond.code yX2_copy cX2_copy 3 none]
def wsX6_idle_r3 : List Cond := [Cond.fieldLink RX2 28 "HopCredits$Link" "delay" "I", Cond.fieldLink RX2 32 "HopCredits$Link" "pool" "I", Cond.fieldLink RX2 35 "HopCredits$Link" "every" "I", Cond.fieldLink RX2 38 "HopCredits$Link" "jammed" "I", Cond.fieldLink RX2 41 "HopCredits$Link" "latest" "I", Cond.fieldLink RX2 44 "HopCredits$Link" "sender" "I", Cond.fieldLink RX2 9 "HopCredits$Link" "cellAt" "[I", Cond.methodLink RX2 54 arraycopyName, Cond.fieldLink RX2 15 "HopCredits$Link" "updateAt" "[I", Cond.fieldLink RX2 18 "HopCredits$Link" "probesAt" "[I", Cond.fieldLink RX2 23 "HopCredits$Link" "lanes" "[LHopCredits$Lane;", Cond.methodLink RX2 60 yX1_copy, Cond.instanceMethod yX1_copy, Cond.selects RX1 yX1_copy yX1_copy, Cond.initialized RX1, Cond.code yX1_copy cX1_copy 2 none, Cond.fieldLink RX1 9 "HopCredits$Lane" "sent" "I", Cond.fieldLink RX1 15 "HopCredits$Lane" "gone" "I", Cond.fieldLink RX1 18 "HopCredits$Lane" "known" "I", Cond.fieldLink RX1 21 "HopCredits$Lane" "zone" "I", Cond.fieldLink RX1 24 "HopCredits$Lane" "waited" "I", Cond.fieldLink RX1 27 "HopCredits$Lane" "sinceUpdate" "I", Cond.fieldLink RX1 30 "HopCredits$Lane" "sinceAdapt" "I", Cond.methodLink RX3 91 yX0_copy]
def wsX6_idle_r4 : List Cond := [Cond.instanceMethod yX0_copy, Cond.selects RX0 yX0_copy yX0_copy, Cond.initialized RX0, Cond.code yX0_copy cX0_copy 2 none, Cond.fieldLink RX0 7 "HopCredits$Flow" "gap" "I", Cond.fieldLink RX0 13 "HopCredits$Flow" "start" "I", Cond.fieldLink RX0 16 "HopCredits$Flow" "takes" "I", Cond.fieldLink RX0 19 "HopCredits$Flow" "came" "I", Cond.fieldLink RX0 22 "HopCredits$Flow" "spilt" "I", Cond.fieldLink RX0 25 "HopCredits$Flow" "delivered" "I", Cond.fieldLink RX0 28 "HopCredits$Flow" "cameNow" "Z", Cond.fieldLink RX0 32 "HopCredits$Flow" "deliveredNow" "Z", Cond.methodLink RX6 233 yX3_step, Cond.instanceMethod yX3_step, Cond.selects RX3 yX3_step yX3_step, Cond.code yX3_step cX3_step 2 none, Cond.methodLink RX3 103 yX3_arriveOver, Cond.instanceMethod yX3_arriveOver, Cond.selects RX3 yX3_arriveOver yX3_arriveOver, Cond.code yX3_arriveOver cX3_arriveOver 9 none, Cond.fieldLink RX3 122 "HopCredits$Link" "cellAt" "[I", Cond.fieldLink RX3 125 "HopCredits$Link" "updateAt" "[I", Cond.fieldLink RX3 128 "HopCredits$Link" "lanes" "[LHopCredits$Lane;", Cond.fieldLink RX3 137 "HopCredits$Link" "probesAt" "[I"]
def wsX6_idle_r5 : List Cond := [Cond.methodLink RX3 132 yX1_hear, Cond.instanceMethod yX1_hear, Cond.selects RX1 yX1_hear yX1_hear, Cond.code yX1_hear cX1_hear 2 none, Cond.static yX6_reaches, Cond.code yX6_reaches cX6_reaches 2 (some .boolean), Cond.methodLink RX3 140 yX3_sendUpdate, Cond.instanceMethod yX3_sendUpdate, Cond.selects RX3 yX3_sendUpdate yX3_sendUpdate, Cond.code yX3_sendUpdate cX3_sendUpdate 3 none, Cond.fieldLink RX3 207 "HopCredits$Link" "jammed" "I", Cond.fieldLink RX3 183 "HopCredits$Link" "delay" "I", Cond.fieldLink RX3 198 "HopCredits$Lane" "gone" "I", Cond.methodLink RX3 144 yX2_clearSlot, Cond.instanceMethod yX2_clearSlot, Cond.selects RX2 yX2_clearSlot yX2_clearSlot, Cond.code yX2_clearSlot cX2_clearSlot 3 none, Cond.methodLink RX3 107 yX3_come, Cond.instanceMethod yX3_come, Cond.selects RX3 yX3_come yX3_come, Cond.code yX3_come cX3_come 3 none, Cond.fieldLink RX3 147 "HopCredits$Flow" "cameNow" "Z", Cond.fieldLink RX3 155 "HopCredits$Flow" "came" "I", Cond.fieldLink RX3 158 "HopCredits$Flow" "spilt" "I"]
def wsX6_idle_r6 : List Cond := [Cond.methodLink RX3 151 yX0_comesIn, Cond.instanceMethod yX0_comesIn, Cond.selects RX0 yX0_comesIn yX0_comesIn, Cond.code yX0_comesIn cX0_comesIn 2 (some .boolean), Cond.methodLink RX3 110 yX3_take, Cond.instanceMethod yX3_take, Cond.selects RX3 yX3_take yX3_take, Cond.code yX3_take cX3_take 4 none, Cond.fieldLink RX3 164 "HopCredits$Flow" "deliveredNow" "Z", Cond.fieldLink RX3 167 "HopCredits$Flow" "delivered" "I", Cond.methodLink RX3 161 yX0_takesIn, Cond.instanceMethod yX0_takesIn, Cond.selects RX0 yX0_takesIn yX0_takesIn, Cond.code yX0_takesIn cX0_takesIn 2 (some .boolean), Cond.methodLink RX3 170 yX3_goneFrom, Cond.instanceMethod yX3_goneFrom, Cond.selects RX3 yX3_goneFrom yX3_goneFrom, Cond.code yX3_goneFrom cX3_goneFrom 5 none, Cond.fieldLink RX3 201 "HopCredits$Lane" "sinceUpdate" "I", Cond.fieldLink RX3 204 "HopCredits$Link" "every" "I", Cond.methodLink RX3 113 yX3_sendOver, Cond.instanceMethod yX3_sendOver, Cond.selects RX3 yX3_sendOver yX3_sendOver, Cond.code yX3_sendOver cX3_sendOver 5 none]
def wsX6_idle_r7 : List Cond := [Cond.fieldLink RX3 177 "HopCredits$Link" "sender" "I", Cond.fieldLink RX3 180 "HopCredits$Link" "latest" "I", Cond.fieldLink RX3 186 "HopCredits$Lane" "sent" "I", Cond.fieldLink RX3 189 "HopCredits$Lane" "sinceAdapt" "I", Cond.methodLink RX3 174 yX3_nextSender, Cond.instanceMethod yX3_nextSender, Cond.selects RX3 yX3_nextSender yX3_nextSender, Cond.code yX3_nextSender cX3_nextSender 6 (some .int), Cond.fieldLink RX3 195 "HopCredits$Lane" "zone" "I", Cond.methodLink RX3 192 yX1_out, Cond.instanceMethod yX1_out, Cond.selects RX1 yX1_out yX1_out, Cond.code yX1_out cX1_out 1 (some .int), Cond.methodLink RX3 116 yX3_waitAt, Cond.instanceMethod yX3_waitAt, Cond.selects RX3 yX3_waitAt yX3_waitAt, Cond.code yX3_waitAt cX3_waitAt 4 none, Cond.fieldLink RX3 210 "HopCredits$Lane" "waited" "I", Cond.methodLink RX3 213 yX3_lacksCredit, Cond.instanceMethod yX3_lacksCredit, Cond.selects RX3 yX3_lacksCredit yX3_lacksCredit, Cond.code yX3_lacksCredit cX3_lacksCredit 3 (some .boolean), Cond.methodLink RX3 217 yX3_sendProbe, Cond.instanceMethod yX3_sendProbe]
def wsX6_idle_r8 : List Cond := [Cond.selects RX3 yX3_sendProbe yX3_sendProbe, Cond.code yX3_sendProbe cX3_sendProbe 3 none, Cond.methodLink RX3 119 yX3_adapt, Cond.instanceMethod yX3_adapt, Cond.selects RX3 yX3_adapt yX3_adapt, Cond.code yX3_adapt cX3_adapt 5 none, Cond.methodLink RX3 224 Lib.Math.min.name, Cond.static Lib.Math.min.name, Cond.initialized "java/lang/Math", Cond.code Lib.Math.min.name Lib.Math.min.code 2 (some .int), Cond.methodLink RX3 64 Lib.Math.max.name, Cond.static Lib.Math.max.name, Cond.code Lib.Math.max.name Lib.Math.max.code 2 (some .int), Cond.methodLink RX3 220 yX3_aimOf, Cond.instanceMethod yX3_aimOf, Cond.selects RX3 yX3_aimOf yX3_aimOf, Cond.code yX3_aimOf cX3_aimOf 5 (some .int), Cond.fieldLink RX3 230 "HopCredits$Link" "pool" "I", Cond.methodLink RX3 227 yX2_roomFor, Cond.instanceMethod yX2_roomFor, Cond.selects RX2 yX2_roomFor yX2_roomFor, Cond.code yX2_roomFor cX2_roomFor 5 (some .int), Cond.fieldLink RX2 64 "HopCredits$Lane" "zone" "I", Cond.methodLink RX2 71 Lib.Math.max.name]
def wsX6_idle_r9 : List Cond := [Cond.methodLink RX2 67 yX1_out]
def wsX6_idle : List Cond := .code yX6_idle cX6_idle 3 (some .int) :: ((wsX6_idle_r1 ++ (wsX6_idle_r2 ++ (wsX6_idle_r3 ++ (wsX6_idle_r4 ++ (wsX6_idle_r5 ++ (wsX6_idle_r6 ++ (wsX6_idle_r7 ++ (wsX6_idle_r8 ++ wsX6_idle_r9)))))))) ++ wsX60 ++ wsX30 ++ wsX20 ++ wsX10 ++ wsX00)
def wsX6_most_r1 : List Cond := [Cond.fieldLink RX6 30 "HopCredits" "apart" "LHopCredits$Net;", Cond.fieldLink RX6 26 "HopCredits" "now" "LHopCredits$Net;", Cond.methodLink RX6 258 Lib.Math.max.name, Cond.static Lib.Math.max.name, Cond.initialized "java/lang/Math", Cond.code Lib.Math.max.name Lib.Math.max.code 2 (some .int), Cond.methodLink RX6 211 yX6_isNode, Cond.instanceMethod yX6_isNode, Cond.selects RX6 yX6_isNode yX6_isNode, Cond.initialized RX6, Cond.code yX6_isNode cX6_isNode 2 (some .boolean), Cond.fieldLink RX6 70 "HopCredits" "laid" "Z", Cond.fieldLink RX6 78 "HopCredits$Net" "hops" "I", Cond.methodLink RX6 135 yX6_isCircuit, Cond.instanceMethod yX6_isCircuit, Cond.selects RX6 yX6_isCircuit yX6_isCircuit, Cond.code yX6_isCircuit cX6_isCircuit 2 (some .boolean), Cond.fieldLink RX6 74 "HopCredits$Net" "circuits" "I", Cond.methodLink RX6 55 yX6_outside, Cond.static yX6_outside, Cond.code yX6_outside cX6_outside 3 (some .boolean), Cond.methodLink RX6 270 yX3_copy, Cond.instanceMethod yX3_copy, Cond.selects RX3 yX3_copy yX3_copy]
def wsX6_most_r2 : List Cond := [Cond.initialized RX3, Cond.code yX3_copy cX3_copy 3 none, Cond.fieldLink RX3 53 "HopCredits$Net" "hops" "I", Cond.fieldLink RX3 62 "HopCredits$Net" "circuits" "I", Cond.fieldLink RX3 59 "HopCredits$Net" "reserve" "I", Cond.fieldLink RX3 46 "HopCredits$Net" "adapts" "I", Cond.fieldLink RX3 50 "HopCredits$Net" "probes" "I", Cond.fieldLink RX3 78 "HopCredits$Net" "tick" "I", Cond.fieldLink RX3 81 "HopCredits$Net" "lost" "I", Cond.fieldLink RX3 84 "HopCredits$Net" "probesSent" "I", Cond.fieldLink RX3 11 "HopCredits$Net" "links" "[LHopCredits$Link;", Cond.fieldLink RX3 19 "HopCredits$Net" "flows" "[LHopCredits$Flow;", Cond.fieldLink RX3 23 "HopCredits$Net" "buffers" "[I", Cond.methodLink RX3 94 arraycopyName, Cond.native arraycopyName, Cond.static arraycopyName, Cond.initialized "java/lang/System", Cond.methodLink RX3 87 yX2_copy, Cond.instanceMethod yX2_copy, Cond.selects RX2 yX2_copy yX2_copy, Cond.initialized RX2, Cond.code yX2_copy cX2_copy 3 none, Cond.fieldLink RX2 28 "HopCredits$Link" "delay" "I", Cond.fieldLink RX2 32 "HopCredits$Link" "pool" "I"]
def wsX6_most_r3 : List Cond := [Cond.fieldLink RX2 35 "HopCredits$Link" "every" "I", Cond.fieldLink RX2 38 "HopCredits$Link" "jammed" "I", Cond.fieldLink RX2 41 "HopCredits$Link" "latest" "I", Cond.fieldLink RX2 44 "HopCredits$Link" "sender" "I", Cond.fieldLink RX2 9 "HopCredits$Link" "cellAt" "[I", Cond.methodLink RX2 54 arraycopyName, Cond.fieldLink RX2 15 "HopCredits$Link" "updateAt" "[I", Cond.fieldLink RX2 18 "HopCredits$Link" "probesAt" "[I", Cond.fieldLink RX2 23 "HopCredits$Link" "lanes" "[LHopCredits$Lane;", Cond.methodLink RX2 60 yX1_copy, Cond.instanceMethod yX1_copy, Cond.selects RX1 yX1_copy yX1_copy, Cond.initialized RX1, Cond.code yX1_copy cX1_copy 2 none, Cond.fieldLink RX1 9 "HopCredits$Lane" "sent" "I", Cond.fieldLink RX1 15 "HopCredits$Lane" "gone" "I", Cond.fieldLink RX1 18 "HopCredits$Lane" "known" "I", Cond.fieldLink RX1 21 "HopCredits$Lane" "zone" "I", Cond.fieldLink RX1 24 "HopCredits$Lane" "waited" "I", Cond.fieldLink RX1 27 "HopCredits$Lane" "sinceUpdate" "I", Cond.fieldLink RX1 30 "HopCredits$Lane" "sinceAdapt" "I", Cond.methodLink RX3 91 yX0_copy, Cond.instanceMethod yX0_copy, Cond.selects RX0 yX0_copy yX0_copy]
def wsX6_most_r4 : List Cond := [Cond.initialized RX0, Cond.code yX0_copy cX0_copy 2 none, Cond.fieldLink RX0 7 "HopCredits$Flow" "gap" "I", Cond.fieldLink RX0 13 "HopCredits$Flow" "start" "I", Cond.fieldLink RX0 16 "HopCredits$Flow" "takes" "I", Cond.fieldLink RX0 19 "HopCredits$Flow" "came" "I", Cond.fieldLink RX0 22 "HopCredits$Flow" "spilt" "I", Cond.fieldLink RX0 25 "HopCredits$Flow" "delivered" "I", Cond.fieldLink RX0 28 "HopCredits$Flow" "cameNow" "Z", Cond.fieldLink RX0 32 "HopCredits$Flow" "deliveredNow" "Z", Cond.methodLink RX6 295 yX3_crowd, Cond.instanceMethod yX3_crowd, Cond.selects RX3 yX3_crowd yX3_crowd, Cond.code yX3_crowd cX3_crowd 8 (some .int), Cond.methodLink RX3 233 yX3_waitingAt, Cond.instanceMethod yX3_waitingAt, Cond.selects RX3 yX3_waitingAt yX3_waitingAt, Cond.code yX3_waitingAt cX3_waitingAt 3 (some .int), Cond.methodLink RX3 236 yX2_cellsOnOf, Cond.instanceMethod yX2_cellsOnOf, Cond.selects RX2 yX2_cellsOnOf yX2_cellsOnOf, Cond.code yX2_cellsOnOf cX2_cellsOnOf 4 (some .int), Cond.methodLink RX6 233 yX3_step, Cond.instanceMethod yX3_step]
def wsX6_most_r5 : List Cond := [Cond.selects RX3 yX3_step yX3_step, Cond.code yX3_step cX3_step 2 none, Cond.methodLink RX3 103 yX3_arriveOver, Cond.instanceMethod yX3_arriveOver, Cond.selects RX3 yX3_arriveOver yX3_arriveOver, Cond.code yX3_arriveOver cX3_arriveOver 9 none, Cond.fieldLink RX3 122 "HopCredits$Link" "cellAt" "[I", Cond.fieldLink RX3 125 "HopCredits$Link" "updateAt" "[I", Cond.fieldLink RX3 128 "HopCredits$Link" "lanes" "[LHopCredits$Lane;", Cond.fieldLink RX3 137 "HopCredits$Link" "probesAt" "[I", Cond.methodLink RX3 132 yX1_hear, Cond.instanceMethod yX1_hear, Cond.selects RX1 yX1_hear yX1_hear, Cond.code yX1_hear cX1_hear 2 none, Cond.static yX6_reaches, Cond.code yX6_reaches cX6_reaches 2 (some .boolean), Cond.methodLink RX3 140 yX3_sendUpdate, Cond.instanceMethod yX3_sendUpdate, Cond.selects RX3 yX3_sendUpdate yX3_sendUpdate, Cond.code yX3_sendUpdate cX3_sendUpdate 3 none, Cond.fieldLink RX3 207 "HopCredits$Link" "jammed" "I", Cond.fieldLink RX3 183 "HopCredits$Link" "delay" "I", Cond.fieldLink RX3 198 "HopCredits$Lane" "gone" "I", Cond.methodLink RX3 144 yX2_clearSlot]
def wsX6_most_r6 : List Cond := [Cond.instanceMethod yX2_clearSlot, Cond.selects RX2 yX2_clearSlot yX2_clearSlot, Cond.code yX2_clearSlot cX2_clearSlot 3 none, Cond.methodLink RX3 107 yX3_come, Cond.instanceMethod yX3_come, Cond.selects RX3 yX3_come yX3_come, Cond.code yX3_come cX3_come 3 none, Cond.fieldLink RX3 147 "HopCredits$Flow" "cameNow" "Z", Cond.fieldLink RX3 155 "HopCredits$Flow" "came" "I", Cond.fieldLink RX3 158 "HopCredits$Flow" "spilt" "I", Cond.methodLink RX3 151 yX0_comesIn, Cond.instanceMethod yX0_comesIn, Cond.selects RX0 yX0_comesIn yX0_comesIn, Cond.code yX0_comesIn cX0_comesIn 2 (some .boolean), Cond.methodLink RX3 110 yX3_take, Cond.instanceMethod yX3_take, Cond.selects RX3 yX3_take yX3_take, Cond.code yX3_take cX3_take 4 none, Cond.fieldLink RX3 164 "HopCredits$Flow" "deliveredNow" "Z", Cond.fieldLink RX3 167 "HopCredits$Flow" "delivered" "I", Cond.methodLink RX3 161 yX0_takesIn, Cond.instanceMethod yX0_takesIn, Cond.selects RX0 yX0_takesIn yX0_takesIn, Cond.code yX0_takesIn cX0_takesIn 2 (some .boolean)]
def wsX6_most_r7 : List Cond := [Cond.methodLink RX3 170 yX3_goneFrom, Cond.instanceMethod yX3_goneFrom, Cond.selects RX3 yX3_goneFrom yX3_goneFrom, Cond.code yX3_goneFrom cX3_goneFrom 5 none, Cond.fieldLink RX3 201 "HopCredits$Lane" "sinceUpdate" "I", Cond.fieldLink RX3 204 "HopCredits$Link" "every" "I", Cond.methodLink RX3 113 yX3_sendOver, Cond.instanceMethod yX3_sendOver, Cond.selects RX3 yX3_sendOver yX3_sendOver, Cond.code yX3_sendOver cX3_sendOver 5 none, Cond.fieldLink RX3 177 "HopCredits$Link" "sender" "I", Cond.fieldLink RX3 180 "HopCredits$Link" "latest" "I", Cond.fieldLink RX3 186 "HopCredits$Lane" "sent" "I", Cond.fieldLink RX3 189 "HopCredits$Lane" "sinceAdapt" "I", Cond.methodLink RX3 174 yX3_nextSender, Cond.instanceMethod yX3_nextSender, Cond.selects RX3 yX3_nextSender yX3_nextSender, Cond.code yX3_nextSender cX3_nextSender 6 (some .int), Cond.fieldLink RX3 195 "HopCredits$Lane" "zone" "I", Cond.methodLink RX3 192 yX1_out, Cond.instanceMethod yX1_out, Cond.selects RX1 yX1_out yX1_out, Cond.code yX1_out cX1_out 1 (some .int), Cond.methodLink RX3 116 yX3_waitAt]
def wsX6_most_r8 : List Cond := [Cond.instanceMethod yX3_waitAt, Cond.selects RX3 yX3_waitAt yX3_waitAt, Cond.code yX3_waitAt cX3_waitAt 4 none, Cond.fieldLink RX3 210 "HopCredits$Lane" "waited" "I", Cond.methodLink RX3 213 yX3_lacksCredit, Cond.instanceMethod yX3_lacksCredit, Cond.selects RX3 yX3_lacksCredit yX3_lacksCredit, Cond.code yX3_lacksCredit cX3_lacksCredit 3 (some .boolean), Cond.methodLink RX3 217 yX3_sendProbe, Cond.instanceMethod yX3_sendProbe, Cond.selects RX3 yX3_sendProbe yX3_sendProbe, Cond.code yX3_sendProbe cX3_sendProbe 3 none, Cond.methodLink RX3 119 yX3_adapt, Cond.instanceMethod yX3_adapt, Cond.selects RX3 yX3_adapt yX3_adapt, Cond.code yX3_adapt cX3_adapt 5 none, Cond.methodLink RX3 224 Lib.Math.min.name, Cond.static Lib.Math.min.name, Cond.code Lib.Math.min.name Lib.Math.min.code 2 (some .int), Cond.methodLink RX3 64 Lib.Math.max.name, Cond.methodLink RX3 220 yX3_aimOf, Cond.instanceMethod yX3_aimOf, Cond.selects RX3 yX3_aimOf yX3_aimOf, Cond.code yX3_aimOf cX3_aimOf 5 (some .int)]
def wsX6_most_r9 : List Cond := [Cond.fieldLink RX3 230 "HopCredits$Link" "pool" "I", Cond.methodLink RX3 227 yX2_roomFor, Cond.instanceMethod yX2_roomFor, Cond.selects RX2 yX2_roomFor yX2_roomFor, Cond.code yX2_roomFor cX2_roomFor 5 (some .int), Cond.fieldLink RX2 64 "HopCredits$Lane" "zone" "I", Cond.methodLink RX2 71 Lib.Math.max.name, Cond.methodLink RX2 67 yX1_out]
def wsX6_most : List Cond := .code yX6_most cX6_most 7 (some .int) :: ((wsX6_most_r1 ++ (wsX6_most_r2 ++ (wsX6_most_r3 ++ (wsX6_most_r4 ++ (wsX6_most_r5 ++ (wsX6_most_r6 ++ (wsX6_most_r7 ++ (wsX6_most_r8 ++ wsX6_most_r9)))))))) ++ wsX60 ++ wsX30 ++ wsX20 ++ wsX10 ++ wsX00)
def wsX6_healed_r1 : List Cond := [Cond.fieldLink RX6 70 "HopCredits" "laid" "Z", Cond.fieldLink RX6 30 "HopCredits" "apart" "LHopCredits$Net;", Cond.fieldLink RX6 26 "HopCredits" "now" "LHopCredits$Net;", Cond.methodLink RX6 270 yX3_copy, Cond.instanceMethod yX3_copy, Cond.selects RX3 yX3_copy yX3_copy, Cond.initialized RX3, Cond.code yX3_copy cX3_copy 3 none, Cond.fieldLink RX3 53 "HopCredits$Net" "hops" "I", Cond.fieldLink RX3 62 "HopCredits$Net" "circuits" "I", Cond.fieldLink RX3 59 "HopCredits$Net" "reserve" "I", Cond.fieldLink RX3 46 "HopCredits$Net" "adapts" "I", Cond.fieldLink RX3 50 "HopCredits$Net" "probes" "I", Cond.fieldLink RX3 78 "HopCredits$Net" "tick" "I", Cond.fieldLink RX3 81 "HopCredits$Net" "lost" "I", Cond.fieldLink RX3 84 "HopCredits$Net" "probesSent" "I", Cond.fieldLink RX3 11 "HopCredits$Net" "links" "[LHopCredits$Link;", Cond.fieldLink RX3 19 "HopCredits$Net" "flows" "[LHopCredits$Flow;", Cond.fieldLink RX3 23 "HopCredits$Net" "buffers" "[I", Cond.methodLink RX3 94 arraycopyName, Cond.native arraycopyName, Cond.static arraycopyName, Cond.initialized "java/lang/System", Cond.methodLink RX3 87 yX2_copy]
def wsX6_healed_r2 : List Cond := [Cond.instanceMethod yX2_copy, Cond.selects RX2 yX2_copy yX2_copy, Cond.initialized RX2, Cond.code yX2_copy cX2_copy 3 none, Cond.fieldLink RX2 28 "HopCredits$Link" "delay" "I", Cond.fieldLink RX2 32 "HopCredits$Link" "pool" "I", Cond.fieldLink RX2 35 "HopCredits$Link" "every" "I", Cond.fieldLink RX2 38 "HopCredits$Link" "jammed" "I", Cond.fieldLink RX2 41 "HopCredits$Link" "latest" "I", Cond.fieldLink RX2 44 "HopCredits$Link" "sender" "I", Cond.fieldLink RX2 9 "HopCredits$Link" "cellAt" "[I", Cond.methodLink RX2 54 arraycopyName, Cond.fieldLink RX2 15 "HopCredits$Link" "updateAt" "[I", Cond.fieldLink RX2 18 "HopCredits$Link" "probesAt" "[I", Cond.fieldLink RX2 23 "HopCredits$Link" "lanes" "[LHopCredits$Lane;", Cond.methodLink RX2 60 yX1_copy, Cond.instanceMethod yX1_copy, Cond.selects RX1 yX1_copy yX1_copy, Cond.initialized RX1, Cond.code yX1_copy cX1_copy 2 none, Cond.fieldLink RX1 9 "HopCredits$Lane" "sent" "I", Cond.fieldLink RX1 15 "HopCredits$Lane" "gone" "I", Cond.fieldLink RX1 18 "HopCredits$Lane" "known" "I", Cond.fieldLink RX1 21 "HopCredits$Lane" "zone" "I"]
def wsX6_healed_r3 : List Cond := [Cond.fieldLink RX1 24 "HopCredits$Lane" "waited" "I", Cond.fieldLink RX1 27 "HopCredits$Lane" "sinceUpdate" "I", Cond.fieldLink RX1 30 "HopCredits$Lane" "sinceAdapt" "I", Cond.methodLink RX3 91 yX0_copy, Cond.instanceMethod yX0_copy, Cond.selects RX0 yX0_copy yX0_copy, Cond.initialized RX0, Cond.code yX0_copy cX0_copy 2 none, Cond.fieldLink RX0 7 "HopCredits$Flow" "gap" "I", Cond.fieldLink RX0 13 "HopCredits$Flow" "start" "I", Cond.fieldLink RX0 16 "HopCredits$Flow" "takes" "I", Cond.fieldLink RX0 19 "HopCredits$Flow" "came" "I", Cond.fieldLink RX0 22 "HopCredits$Flow" "spilt" "I", Cond.fieldLink RX0 25 "HopCredits$Flow" "delivered" "I", Cond.fieldLink RX0 28 "HopCredits$Flow" "cameNow" "Z", Cond.fieldLink RX0 32 "HopCredits$Flow" "deliveredNow" "Z", Cond.methodLink RX6 298 yX3_unknown, Cond.instanceMethod yX3_unknown, Cond.selects RX3 yX3_unknown yX3_unknown, Cond.code yX3_unknown cX3_unknown 5 (some .int), Cond.fieldLink RX3 128 "HopCredits$Link" "lanes" "[LHopCredits$Lane;", Cond.fieldLink RX3 242 "HopCredits$Lane" "known" "I", Cond.fieldLink RX3 198 "HopCredits$Lane" "gone" "I", Cond.methodLink RX6 301 yX3_restingStep]
def wsX6_healed_r4 : List Cond := [Cond.instanceMethod yX3_restingStep, Cond.selects RX3 yX3_restingStep yX3_restingStep, Cond.code yX3_restingStep cX3_restingStep 2 none, Cond.methodLink RX3 103 yX3_arriveOver, Cond.instanceMethod yX3_arriveOver, Cond.selects RX3 yX3_arriveOver yX3_arriveOver, Cond.code yX3_arriveOver cX3_arriveOver 9 none, Cond.fieldLink RX3 122 "HopCredits$Link" "cellAt" "[I", Cond.fieldLink RX3 125 "HopCredits$Link" "updateAt" "[I", Cond.fieldLink RX3 137 "HopCredits$Link" "probesAt" "[I", Cond.methodLink RX3 132 yX1_hear, Cond.instanceMethod yX1_hear, Cond.selects RX1 yX1_hear yX1_hear, Cond.code yX1_hear cX1_hear 2 none, Cond.static yX6_reaches, Cond.initialized RX6, Cond.code yX6_reaches cX6_reaches 2 (some .boolean), Cond.methodLink RX3 140 yX3_sendUpdate, Cond.instanceMethod yX3_sendUpdate, Cond.selects RX3 yX3_sendUpdate yX3_sendUpdate, Cond.code yX3_sendUpdate cX3_sendUpdate 3 none, Cond.fieldLink RX3 207 "HopCredits$Link" "jammed" "I", Cond.fieldLink RX3 183 "HopCredits$Link" "delay" "I", Cond.methodLink RX3 144 yX2_clearSlot]
def wsX6_healed_r5 : List Cond := [Cond.instanceMethod yX2_clearSlot, Cond.selects RX2 yX2_clearSlot yX2_clearSlot, Cond.code yX2_clearSlot cX2_clearSlot 3 none, Cond.methodLink RX3 116 yX3_waitAt, Cond.instanceMethod yX3_waitAt, Cond.selects RX3 yX3_waitAt yX3_waitAt, Cond.code yX3_waitAt cX3_waitAt 4 none, Cond.fieldLink RX3 210 "HopCredits$Lane" "waited" "I", Cond.methodLink RX3 213 yX3_lacksCredit, Cond.instanceMethod yX3_lacksCredit, Cond.selects RX3 yX3_lacksCredit yX3_lacksCredit, Cond.code yX3_lacksCredit cX3_lacksCredit 3 (some .boolean), Cond.fieldLink RX3 195 "HopCredits$Lane" "zone" "I", Cond.methodLink RX3 192 yX1_out, Cond.instanceMethod yX1_out, Cond.selects RX1 yX1_out yX1_out, Cond.code yX1_out cX1_out 1 (some .int), Cond.methodLink RX3 217 yX3_sendProbe, Cond.instanceMethod yX3_sendProbe, Cond.selects RX3 yX3_sendProbe yX3_sendProbe, Cond.code yX3_sendProbe cX3_sendProbe 3 none]
def wsX6_healed : List Cond := .code yX6_healed cX6_healed 2 (some .int) :: ((wsX6_healed_r1 ++ (wsX6_healed_r2 ++ (wsX6_healed_r3 ++ (wsX6_healed_r4 ++ wsX6_healed_r5)))) ++ wsX60 ++ wsX30 ++ wsX20 ++ wsX10 ++ wsX00)
def wsX6_loss_r1 : List Cond := [Cond.fieldLink RX6 70 "HopCredits" "laid" "Z", Cond.constant RX6 77 (-1000000), Cond.methodLink RX6 55 yX6_outside, Cond.static yX6_outside, Cond.initialized RX6, Cond.code yX6_outside cX6_outside 3 (some .boolean), Cond.methodLink RX6 267 yX6_goApart, Cond.instanceMethod yX6_goApart, Cond.selects RX6 yX6_goApart yX6_goApart, Cond.code yX6_goApart cX6_goApart 2 none, Cond.fieldLink RX6 30 "HopCredits" "apart" "LHopCredits$Net;", Cond.fieldLink RX6 26 "HopCredits" "now" "LHopCredits$Net;", Cond.methodLink RX6 270 yX3_copy, Cond.instanceMethod yX3_copy, Cond.selects RX3 yX3_copy yX3_copy, Cond.initialized RX3, Cond.code yX3_copy cX3_copy 3 none, Cond.fieldLink RX3 53 "HopCredits$Net" "hops" "I", Cond.fieldLink RX3 62 "HopCredits$Net" "circuits" "I", Cond.fieldLink RX3 59 "HopCredits$Net" "reserve" "I", Cond.fieldLink RX3 46 "HopCredits$Net" "adapts" "I", Cond.fieldLink RX3 50 "HopCredits$Net" "probes" "I", Cond.fieldLink RX3 78 "HopCredits$Net" "tick" "I", Cond.fieldLink RX3 81 "HopCredits$Net" "lost" "I"]
def wsX6_loss_r2 : List Cond := [Cond.fieldLink RX3 84 "HopCredits$Net" "probesSent" "I", Cond.fieldLink RX3 11 "HopCredits$Net" "links" "[LHopCredits$Link;", Cond.fieldLink RX3 19 "HopCredits$Net" "flows" "[LHopCredits$Flow;", Cond.fieldLink RX3 23 "HopCredits$Net" "buffers" "[I", Cond.methodLink RX3 94 arraycopyName, Cond.native arraycopyName, Cond.static arraycopyName, Cond.initialized "java/lang/System", Cond.methodLink RX3 87 yX2_copy, Cond.instanceMethod yX2_copy, Cond.selects RX2 yX2_copy yX2_copy, Cond.initialized RX2, Cond.code yX2_copy cX2_copy 3 none, Cond.fieldLink RX2 28 "HopCredits$Link" "delay" "I", Cond.fieldLink RX2 32 "HopCredits$Link" "pool" "I", Cond.fieldLink RX2 35 "HopCredits$Link" "every" "I", Cond.fieldLink RX2 38 "HopCredits$Link" "jammed" "I", Cond.fieldLink RX2 41 "HopCredits$Link" "latest" "I", Cond.fieldLink RX2 44 "HopCredits$Link" "sender" "I", Cond.fieldLink RX2 9 "HopCredits$Link" "cellAt" "[I", Cond.methodLink RX2 54 arraycopyName, Cond.fieldLink RX2 15 "HopCredits$Link" "updateAt" "[I", Cond.fieldLink RX2 18 "HopCredits$Link" "probesAt" "[I", Cond.fieldLink RX2 23 "HopCredits$Link" "lanes" "[LHopCredits$Lane;"]
def wsX6_loss_r3 : List Cond := [Cond.methodLink RX2 60 yX1_copy, Cond.instanceMethod yX1_copy, Cond.selects RX1 yX1_copy yX1_copy, Cond.initialized RX1, Cond.code yX1_copy cX1_copy 2 none, Cond.fieldLink RX1 9 "HopCredits$Lane" "sent" "I", Cond.fieldLink RX1 15 "HopCredits$Lane" "gone" "I", Cond.fieldLink RX1 18 "HopCredits$Lane" "known" "I", Cond.fieldLink RX1 21 "HopCredits$Lane" "zone" "I", Cond.fieldLink RX1 24 "HopCredits$Lane" "waited" "I", Cond.fieldLink RX1 27 "HopCredits$Lane" "sinceUpdate" "I", Cond.fieldLink RX1 30 "HopCredits$Lane" "sinceAdapt" "I", Cond.methodLink RX3 91 yX0_copy, Cond.instanceMethod yX0_copy, Cond.selects RX0 yX0_copy yX0_copy, Cond.initialized RX0, Cond.code yX0_copy cX0_copy 2 none, Cond.fieldLink RX0 7 "HopCredits$Flow" "gap" "I", Cond.fieldLink RX0 13 "HopCredits$Flow" "start" "I", Cond.fieldLink RX0 16 "HopCredits$Flow" "takes" "I", Cond.fieldLink RX0 19 "HopCredits$Flow" "came" "I", Cond.fieldLink RX0 22 "HopCredits$Flow" "spilt" "I", Cond.fieldLink RX0 25 "HopCredits$Flow" "delivered" "I", Cond.fieldLink RX0 28 "HopCredits$Flow" "cameNow" "Z"]
def wsX6_loss_r4 : List Cond := [Cond.fieldLink RX0 32 "HopCredits$Flow" "deliveredNow" "Z", Cond.methodLink RX6 274 yX3_steps, Cond.instanceMethod yX3_steps, Cond.selects RX3 yX3_steps yX3_steps, Cond.code yX3_steps cX3_steps 3 none, Cond.methodLink RX3 100 yX3_step, Cond.instanceMethod yX3_step, Cond.selects RX3 yX3_step yX3_step, Cond.code yX3_step cX3_step 2 none, Cond.methodLink RX3 103 yX3_arriveOver, Cond.instanceMethod yX3_arriveOver, Cond.selects RX3 yX3_arriveOver yX3_arriveOver, Cond.code yX3_arriveOver cX3_arriveOver 9 none, Cond.fieldLink RX3 122 "HopCredits$Link" "cellAt" "[I", Cond.fieldLink RX3 125 "HopCredits$Link" "updateAt" "[I", Cond.fieldLink RX3 128 "HopCredits$Link" "lanes" "[LHopCredits$Lane;", Cond.fieldLink RX3 137 "HopCredits$Link" "probesAt" "[I", Cond.methodLink RX3 132 yX1_hear, Cond.instanceMethod yX1_hear, Cond.selects RX1 yX1_hear yX1_hear, Cond.code yX1_hear cX1_hear 2 none, Cond.static yX6_reaches, Cond.code yX6_reaches cX6_reaches 2 (some .boolean), Cond.methodLink RX3 140 yX3_sendUpdate]
def wsX6_loss_r5 : List Cond := [Cond.instanceMethod yX3_sendUpdate, Cond.selects RX3 yX3_sendUpdate yX3_sendUpdate, Cond.code yX3_sendUpdate cX3_sendUpdate 3 none, Cond.fieldLink RX3 207 "HopCredits$Link" "jammed" "I", Cond.fieldLink RX3 183 "HopCredits$Link" "delay" "I", Cond.fieldLink RX3 198 "HopCredits$Lane" "gone" "I", Cond.methodLink RX3 144 yX2_clearSlot, Cond.instanceMethod yX2_clearSlot, Cond.selects RX2 yX2_clearSlot yX2_clearSlot, Cond.code yX2_clearSlot cX2_clearSlot 3 none, Cond.methodLink RX3 107 yX3_come, Cond.instanceMethod yX3_come, Cond.selects RX3 yX3_come yX3_come, Cond.code yX3_come cX3_come 3 none, Cond.fieldLink RX3 147 "HopCredits$Flow" "cameNow" "Z", Cond.fieldLink RX3 155 "HopCredits$Flow" "came" "I", Cond.fieldLink RX3 158 "HopCredits$Flow" "spilt" "I", Cond.methodLink RX3 151 yX0_comesIn, Cond.instanceMethod yX0_comesIn, Cond.selects RX0 yX0_comesIn yX0_comesIn, Cond.code yX0_comesIn cX0_comesIn 2 (some .boolean), Cond.methodLink RX3 110 yX3_take, Cond.instanceMethod yX3_take, Cond.selects RX3 yX3_take yX3_take]
def wsX6_loss_r6 : List Cond := [Cond.code yX3_take cX3_take 4 none, Cond.fieldLink RX3 164 "HopCredits$Flow" "deliveredNow" "Z", Cond.fieldLink RX3 167 "HopCredits$Flow" "delivered" "I", Cond.methodLink RX3 161 yX0_takesIn, Cond.instanceMethod yX0_takesIn, Cond.selects RX0 yX0_takesIn yX0_takesIn, Cond.code yX0_takesIn cX0_takesIn 2 (some .boolean), Cond.methodLink RX3 170 yX3_goneFrom, Cond.instanceMethod yX3_goneFrom, Cond.selects RX3 yX3_goneFrom yX3_goneFrom, Cond.code yX3_goneFrom cX3_goneFrom 5 none, Cond.fieldLink RX3 201 "HopCredits$Lane" "sinceUpdate" "I", Cond.fieldLink RX3 204 "HopCredits$Link" "every" "I", Cond.methodLink RX3 113 yX3_sendOver, Cond.instanceMethod yX3_sendOver, Cond.selects RX3 yX3_sendOver yX3_sendOver, Cond.code yX3_sendOver cX3_sendOver 5 none, Cond.fieldLink RX3 177 "HopCredits$Link" "sender" "I", Cond.fieldLink RX3 180 "HopCredits$Link" "latest" "I", Cond.fieldLink RX3 186 "HopCredits$Lane" "sent" "I", Cond.fieldLink RX3 189 "HopCredits$Lane" "sinceAdapt" "I", Cond.methodLink RX3 174 yX3_nextSender, Cond.instanceMethod yX3_nextSender, Cond.selects RX3 yX3_nextSender yX3_nextSender]
def wsX6_loss_r7 : List Cond := [Cond.code yX3_nextSender cX3_nextSender 6 (some .int), Cond.fieldLink RX3 195 "HopCredits$Lane" "zone" "I", Cond.methodLink RX3 192 yX1_out, Cond.instanceMethod yX1_out, Cond.selects RX1 yX1_out yX1_out, Cond.code yX1_out cX1_out 1 (some .int), Cond.methodLink RX3 116 yX3_waitAt, Cond.instanceMethod yX3_waitAt, Cond.selects RX3 yX3_waitAt yX3_waitAt, Cond.code yX3_waitAt cX3_waitAt 4 none, Cond.fieldLink RX3 210 "HopCredits$Lane" "waited" "I", Cond.methodLink RX3 213 yX3_lacksCredit, Cond.instanceMethod yX3_lacksCredit, Cond.selects RX3 yX3_lacksCredit yX3_lacksCredit, Cond.code yX3_lacksCredit cX3_lacksCredit 3 (some .boolean), Cond.methodLink RX3 217 yX3_sendProbe, Cond.instanceMethod yX3_sendProbe, Cond.selects RX3 yX3_sendProbe yX3_sendProbe, Cond.code yX3_sendProbe cX3_sendProbe 3 none, Cond.methodLink RX3 119 yX3_adapt, Cond.instanceMethod yX3_adapt, Cond.selects RX3 yX3_adapt yX3_adapt, Cond.code yX3_adapt cX3_adapt 5 none, Cond.methodLink RX3 224 Lib.Math.min.name]
def wsX6_loss_r8 : List Cond := [Cond.static Lib.Math.min.name, Cond.initialized "java/lang/Math", Cond.code Lib.Math.min.name Lib.Math.min.code 2 (some .int), Cond.methodLink RX3 64 Lib.Math.max.name, Cond.static Lib.Math.max.name, Cond.code Lib.Math.max.name Lib.Math.max.code 2 (some .int), Cond.methodLink RX3 220 yX3_aimOf, Cond.instanceMethod yX3_aimOf, Cond.selects RX3 yX3_aimOf yX3_aimOf, Cond.code yX3_aimOf cX3_aimOf 5 (some .int), Cond.fieldLink RX3 230 "HopCredits$Link" "pool" "I", Cond.methodLink RX3 227 yX2_roomFor, Cond.instanceMethod yX2_roomFor, Cond.selects RX2 yX2_roomFor yX2_roomFor, Cond.code yX2_roomFor cX2_roomFor 5 (some .int), Cond.fieldLink RX2 64 "HopCredits$Lane" "zone" "I", Cond.methodLink RX2 71 Lib.Math.max.name, Cond.methodLink RX2 67 yX1_out, Cond.methodLink RX6 277 yX6_deliveredApart, Cond.instanceMethod yX6_deliveredApart, Cond.selects RX6 yX6_deliveredApart yX6_deliveredApart, Cond.code yX6_deliveredApart cX6_deliveredApart 1 (some .int), Cond.methodLink RX6 283 yX3_deliveredOfAll, Cond.instanceMethod yX3_deliveredOfAll]
def wsX6_loss_r9 : List Cond := [Cond.selects RX3 yX3_deliveredOfAll yX3_deliveredOfAll, Cond.code yX3_deliveredOfAll cX3_deliveredOfAll 3 (some .int), Cond.methodLink RX6 304 yX6_deliveredJammed, Cond.instanceMethod yX6_deliveredJammed, Cond.selects RX6 yX6_deliveredJammed yX6_deliveredJammed, Cond.code yX6_deliveredJammed cX6_deliveredJammed 4 (some .int), Cond.fieldLink RX6 78 "HopCredits$Net" "hops" "I", Cond.fieldLink RX6 104 "HopCredits$Net" "links" "[LHopCredits$Link;", Cond.fieldLink RX6 119 "HopCredits$Link" "jammed" "I"]
def wsX6_loss : List Cond := .code yX6_loss cX6_loss 3 (some .int) :: ((wsX6_loss_r1 ++ (wsX6_loss_r2 ++ (wsX6_loss_r3 ++ (wsX6_loss_r4 ++ (wsX6_loss_r5 ++ (wsX6_loss_r6 ++ (wsX6_loss_r7 ++ (wsX6_loss_r8 ++ wsX6_loss_r9)))))))) ++ wsX60 ++ wsX30 ++ wsX20 ++ wsX10 ++ wsX00)
def wsX6_fair_r1 : List Cond := [Cond.fieldLink RX6 70 "HopCredits" "laid" "Z", Cond.fieldLink RX6 26 "HopCredits" "now" "LHopCredits$Net;", Cond.fieldLink RX6 74 "HopCredits$Net" "circuits" "I", Cond.methodLink RX6 258 Lib.Math.max.name, Cond.static Lib.Math.max.name, Cond.initialized "java/lang/Math", Cond.code Lib.Math.max.name Lib.Math.max.code 2 (some .int), Cond.methodLink RX6 307 Lib.Math.min.name, Cond.static Lib.Math.min.name, Cond.code Lib.Math.min.name Lib.Math.min.code 2 (some .int), Cond.methodLink RX6 55 yX6_outside, Cond.static yX6_outside, Cond.initialized RX6, Cond.code yX6_outside cX6_outside 3 (some .boolean), Cond.methodLink RX6 267 yX6_goApart, Cond.instanceMethod yX6_goApart, Cond.selects RX6 yX6_goApart yX6_goApart, Cond.code yX6_goApart cX6_goApart 2 none, Cond.fieldLink RX6 30 "HopCredits" "apart" "LHopCredits$Net;", Cond.methodLink RX6 270 yX3_copy, Cond.instanceMethod yX3_copy, Cond.selects RX3 yX3_copy yX3_copy, Cond.initialized RX3, Cond.code yX3_copy cX3_copy 3 none]
def wsX6_fair_r2 : List Cond := [Cond.fieldLink RX3 53 "HopCredits$Net" "hops" "I", Cond.fieldLink RX3 62 "HopCredits$Net" "circuits" "I", Cond.fieldLink RX3 59 "HopCredits$Net" "reserve" "I", Cond.fieldLink RX3 46 "HopCredits$Net" "adapts" "I", Cond.fieldLink RX3 50 "HopCredits$Net" "probes" "I", Cond.fieldLink RX3 78 "HopCredits$Net" "tick" "I", Cond.fieldLink RX3 81 "HopCredits$Net" "lost" "I", Cond.fieldLink RX3 84 "HopCredits$Net" "probesSent" "I", Cond.fieldLink RX3 11 "HopCredits$Net" "links" "[LHopCredits$Link;", Cond.fieldLink RX3 19 "HopCredits$Net" "flows" "[LHopCredits$Flow;", Cond.fieldLink RX3 23 "HopCredits$Net" "buffers" "[I", Cond.methodLink RX3 94 arraycopyName, Cond.native arraycopyName, Cond.static arraycopyName, Cond.initialized "java/lang/System", Cond.methodLink RX3 87 yX2_copy, Cond.instanceMethod yX2_copy, Cond.selects RX2 yX2_copy yX2_copy, Cond.initialized RX2, Cond.code yX2_copy cX2_copy 3 none, Cond.fieldLink RX2 28 "HopCredits$Link" "delay" "I", Cond.fieldLink RX2 32 "HopCredits$Link" "pool" "I", Cond.fieldLink RX2 35 "HopCredits$Link" "every" "I", Cond.fieldLink RX2 38 "HopCredits$Link" "jammed" "I"]
def wsX6_fair_r3 : List Cond := [Cond.fieldLink RX2 41 "HopCredits$Link" "latest" "I", Cond.fieldLink RX2 44 "HopCredits$Link" "sender" "I", Cond.fieldLink RX2 9 "HopCredits$Link" "cellAt" "[I", Cond.methodLink RX2 54 arraycopyName, Cond.fieldLink RX2 15 "HopCredits$Link" "updateAt" "[I", Cond.fieldLink RX2 18 "HopCredits$Link" "probesAt" "[I", Cond.fieldLink RX2 23 "HopCredits$Link" "lanes" "[LHopCredits$Lane;", Cond.methodLink RX2 60 yX1_copy, Cond.instanceMethod yX1_copy, Cond.selects RX1 yX1_copy yX1_copy, Cond.initialized RX1, Cond.code yX1_copy cX1_copy 2 none, Cond.fieldLink RX1 9 "HopCredits$Lane" "sent" "I", Cond.fieldLink RX1 15 "HopCredits$Lane" "gone" "I", Cond.fieldLink RX1 18 "HopCredits$Lane" "known" "I", Cond.fieldLink RX1 21 "HopCredits$Lane" "zone" "I", Cond.fieldLink RX1 24 "HopCredits$Lane" "waited" "I", Cond.fieldLink RX1 27 "HopCredits$Lane" "sinceUpdate" "I", Cond.fieldLink RX1 30 "HopCredits$Lane" "sinceAdapt" "I", Cond.methodLink RX3 91 yX0_copy, Cond.instanceMethod yX0_copy, Cond.selects RX0 yX0_copy yX0_copy, Cond.initialized RX0, Cond.code yX0_copy cX0_copy 2 none]
def wsX6_fair_r4 : List Cond := [Cond.fieldLink RX0 7 "HopCredits$Flow" "gap" "I", Cond.fieldLink RX0 13 "HopCredits$Flow" "start" "I", Cond.fieldLink RX0 16 "HopCredits$Flow" "takes" "I", Cond.fieldLink RX0 19 "HopCredits$Flow" "came" "I", Cond.fieldLink RX0 22 "HopCredits$Flow" "spilt" "I", Cond.fieldLink RX0 25 "HopCredits$Flow" "delivered" "I", Cond.fieldLink RX0 28 "HopCredits$Flow" "cameNow" "Z", Cond.fieldLink RX0 32 "HopCredits$Flow" "deliveredNow" "Z", Cond.methodLink RX6 274 yX3_steps, Cond.instanceMethod yX3_steps, Cond.selects RX3 yX3_steps yX3_steps, Cond.code yX3_steps cX3_steps 3 none, Cond.methodLink RX3 100 yX3_step, Cond.instanceMethod yX3_step, Cond.selects RX3 yX3_step yX3_step, Cond.code yX3_step cX3_step 2 none, Cond.methodLink RX3 103 yX3_arriveOver, Cond.instanceMethod yX3_arriveOver, Cond.selects RX3 yX3_arriveOver yX3_arriveOver, Cond.code yX3_arriveOver cX3_arriveOver 9 none, Cond.fieldLink RX3 122 "HopCredits$Link" "cellAt" "[I", Cond.fieldLink RX3 125 "HopCredits$Link" "updateAt" "[I", Cond.fieldLink RX3 128 "HopCredits$Link" "lanes" "[LHopCredits$Lane;", Cond.fieldLink RX3 137 "HopCredits$Link" "probesAt" "[I"]
def wsX6_fair_r5 : List Cond := [Cond.methodLink RX3 132 yX1_hear, Cond.instanceMethod yX1_hear, Cond.selects RX1 yX1_hear yX1_hear, Cond.code yX1_hear cX1_hear 2 none, Cond.static yX6_reaches, Cond.code yX6_reaches cX6_reaches 2 (some .boolean), Cond.methodLink RX3 140 yX3_sendUpdate, Cond.instanceMethod yX3_sendUpdate, Cond.selects RX3 yX3_sendUpdate yX3_sendUpdate, Cond.code yX3_sendUpdate cX3_sendUpdate 3 none, Cond.fieldLink RX3 207 "HopCredits$Link" "jammed" "I", Cond.fieldLink RX3 183 "HopCredits$Link" "delay" "I", Cond.fieldLink RX3 198 "HopCredits$Lane" "gone" "I", Cond.methodLink RX3 144 yX2_clearSlot, Cond.instanceMethod yX2_clearSlot, Cond.selects RX2 yX2_clearSlot yX2_clearSlot, Cond.code yX2_clearSlot cX2_clearSlot 3 none, Cond.methodLink RX3 107 yX3_come, Cond.instanceMethod yX3_come, Cond.selects RX3 yX3_come yX3_come, Cond.code yX3_come cX3_come 3 none, Cond.fieldLink RX3 147 "HopCredits$Flow" "cameNow" "Z", Cond.fieldLink RX3 155 "HopCredits$Flow" "came" "I", Cond.fieldLink RX3 158 "HopCredits$Flow" "spilt" "I"]
def wsX6_fair_r6 : List Cond := [Cond.methodLink RX3 151 yX0_comesIn, Cond.instanceMethod yX0_comesIn, Cond.selects RX0 yX0_comesIn yX0_comesIn, Cond.code yX0_comesIn cX0_comesIn 2 (some .boolean), Cond.methodLink RX3 110 yX3_take, Cond.instanceMethod yX3_take, Cond.selects RX3 yX3_take yX3_take, Cond.code yX3_take cX3_take 4 none, Cond.fieldLink RX3 164 "HopCredits$Flow" "deliveredNow" "Z", Cond.fieldLink RX3 167 "HopCredits$Flow" "delivered" "I", Cond.methodLink RX3 161 yX0_takesIn, Cond.instanceMethod yX0_takesIn, Cond.selects RX0 yX0_takesIn yX0_takesIn, Cond.code yX0_takesIn cX0_takesIn 2 (some .boolean), Cond.methodLink RX3 170 yX3_goneFrom, Cond.instanceMethod yX3_goneFrom, Cond.selects RX3 yX3_goneFrom yX3_goneFrom, Cond.code yX3_goneFrom cX3_goneFrom 5 none, Cond.fieldLink RX3 201 "HopCredits$Lane" "sinceUpdate" "I", Cond.fieldLink RX3 204 "HopCredits$Link" "every" "I", Cond.methodLink RX3 113 yX3_sendOver, Cond.instanceMethod yX3_sendOver, Cond.selects RX3 yX3_sendOver yX3_sendOver, Cond.code yX3_sendOver cX3_sendOver 5 none]
def wsX6_fair_r7 : List Cond := [Cond.fieldLink RX3 177 "HopCredits$Link" "sender" "I", Cond.fieldLink RX3 180 "HopCredits$Link" "latest" "I", Cond.fieldLink RX3 186 "HopCredits$Lane" "sent" "I", Cond.fieldLink RX3 189 "HopCredits$Lane" "sinceAdapt" "I", Cond.methodLink RX3 174 yX3_nextSender, Cond.instanceMethod yX3_nextSender, Cond.selects RX3 yX3_nextSender yX3_nextSender, Cond.code yX3_nextSender cX3_nextSender 6 (some .int), Cond.fieldLink RX3 195 "HopCredits$Lane" "zone" "I", Cond.methodLink RX3 192 yX1_out, Cond.instanceMethod yX1_out, Cond.selects RX1 yX1_out yX1_out, Cond.code yX1_out cX1_out 1 (some .int), Cond.methodLink RX3 116 yX3_waitAt, Cond.instanceMethod yX3_waitAt, Cond.selects RX3 yX3_waitAt yX3_waitAt, Cond.code yX3_waitAt cX3_waitAt 4 none, Cond.fieldLink RX3 210 "HopCredits$Lane" "waited" "I", Cond.methodLink RX3 213 yX3_lacksCredit, Cond.instanceMethod yX3_lacksCredit, Cond.selects RX3 yX3_lacksCredit yX3_lacksCredit, Cond.code yX3_lacksCredit cX3_lacksCredit 3 (some .boolean), Cond.methodLink RX3 217 yX3_sendProbe, Cond.instanceMethod yX3_sendProbe]
def wsX6_fair_r8 : List Cond := [Cond.selects RX3 yX3_sendProbe yX3_sendProbe, Cond.code yX3_sendProbe cX3_sendProbe 3 none, Cond.methodLink RX3 119 yX3_adapt, Cond.instanceMethod yX3_adapt, Cond.selects RX3 yX3_adapt yX3_adapt, Cond.code yX3_adapt cX3_adapt 5 none, Cond.methodLink RX3 224 Lib.Math.min.name, Cond.methodLink RX3 64 Lib.Math.max.name, Cond.methodLink RX3 220 yX3_aimOf, Cond.instanceMethod yX3_aimOf, Cond.selects RX3 yX3_aimOf yX3_aimOf, Cond.code yX3_aimOf cX3_aimOf 5 (some .int), Cond.fieldLink RX3 230 "HopCredits$Link" "pool" "I", Cond.methodLink RX3 227 yX2_roomFor, Cond.instanceMethod yX2_roomFor, Cond.selects RX2 yX2_roomFor yX2_roomFor, Cond.code yX2_roomFor cX2_roomFor 5 (some .int), Cond.fieldLink RX2 64 "HopCredits$Lane" "zone" "I", Cond.methodLink RX2 71 Lib.Math.max.name, Cond.methodLink RX2 67 yX1_out, Cond.methodLink RX6 280 yX6_deliveredApartOf, Cond.instanceMethod yX6_deliveredApartOf, Cond.selects RX6 yX6_deliveredApartOf yX6_deliveredApartOf, Cond.code yX6_deliveredApartOf cX6_deliveredApartOf 2 (some .int)]
def wsX6_fair_r9 : List Cond := [Cond.fieldLink RX6 140 "HopCredits$Net" "flows" "[LHopCredits$Flow;", Cond.fieldLink RX6 161 "HopCredits$Flow" "delivered" "I"]
def wsX6_fair : List Cond := .code yX6_fair cX6_fair 6 (some .int) :: ((wsX6_fair_r1 ++ (wsX6_fair_r2 ++ (wsX6_fair_r3 ++ (wsX6_fair_r4 ++ (wsX6_fair_r5 ++ (wsX6_fair_r6 ++ (wsX6_fair_r7 ++ (wsX6_fair_r8 ++ wsX6_fair_r9)))))))) ++ wsX60 ++ wsX30 ++ wsX20 ++ wsX10 ++ wsX00)
def wsX6_learns_r1 : List Cond := [Cond.fieldLink RX6 26 "HopCredits" "now" "LHopCredits$Net;", Cond.fieldLink RX6 104 "HopCredits$Net" "links" "[LHopCredits$Link;", Cond.fieldLink RX6 175 "HopCredits$Link" "lanes" "[LHopCredits$Lane;", Cond.fieldLink RX6 184 "HopCredits$Lane" "gone" "I", Cond.fieldLink RX6 30 "HopCredits" "apart" "LHopCredits$Net;", Cond.fieldLink RX6 187 "HopCredits$Lane" "known" "I", Cond.methodLink RX6 167 yX6_isLane, Cond.instanceMethod yX6_isLane, Cond.selects RX6 yX6_isLane yX6_isLane, Cond.initialized RX6, Cond.code yX6_isLane cX6_isLane 3 (some .boolean), Cond.methodLink RX6 93 yX6_isHop, Cond.instanceMethod yX6_isHop, Cond.selects RX6 yX6_isHop yX6_isHop, Cond.code yX6_isHop cX6_isHop 2 (some .boolean), Cond.fieldLink RX6 70 "HopCredits" "laid" "Z", Cond.fieldLink RX6 78 "HopCredits$Net" "hops" "I", Cond.methodLink RX6 135 yX6_isCircuit, Cond.instanceMethod yX6_isCircuit, Cond.selects RX6 yX6_isCircuit yX6_isCircuit, Cond.code yX6_isCircuit cX6_isCircuit 2 (some .boolean), Cond.fieldLink RX6 74 "HopCredits$Net" "circuits" "I", Cond.methodLink RX6 270 yX3_copy, Cond.instanceMethod yX3_copy]
def wsX6_learns_r2 : List Cond := [Cond.selects RX3 yX3_copy yX3_copy, Cond.initialized RX3, Cond.code yX3_copy cX3_copy 3 none, Cond.fieldLink RX3 53 "HopCredits$Net" "hops" "I", Cond.fieldLink RX3 62 "HopCredits$Net" "circuits" "I", Cond.fieldLink RX3 59 "HopCredits$Net" "reserve" "I", Cond.fieldLink RX3 46 "HopCredits$Net" "adapts" "I", Cond.fieldLink RX3 50 "HopCredits$Net" "probes" "I", Cond.fieldLink RX3 78 "HopCredits$Net" "tick" "I", Cond.fieldLink RX3 81 "HopCredits$Net" "lost" "I", Cond.fieldLink RX3 84 "HopCredits$Net" "probesSent" "I", Cond.fieldLink RX3 11 "HopCredits$Net" "links" "[LHopCredits$Link;", Cond.fieldLink RX3 19 "HopCredits$Net" "flows" "[LHopCredits$Flow;", Cond.fieldLink RX3 23 "HopCredits$Net" "buffers" "[I", Cond.methodLink RX3 94 arraycopyName, Cond.native arraycopyName, Cond.static arraycopyName, Cond.initialized "java/lang/System", Cond.methodLink RX3 87 yX2_copy, Cond.instanceMethod yX2_copy, Cond.selects RX2 yX2_copy yX2_copy, Cond.initialized RX2, Cond.code yX2_copy cX2_copy 3 none, Cond.fieldLink RX2 28 "HopCredits$Link" "delay" "I"]
def wsX6_learns_r3 : List Cond := [Cond.fieldLink RX2 32 "HopCredits$Link" "pool" "I", Cond.fieldLink RX2 35 "HopCredits$Link" "every" "I", Cond.fieldLink RX2 38 "HopCredits$Link" "jammed" "I", Cond.fieldLink RX2 41 "HopCredits$Link" "latest" "I", Cond.fieldLink RX2 44 "HopCredits$Link" "sender" "I", Cond.fieldLink RX2 9 "HopCredits$Link" "cellAt" "[I", Cond.methodLink RX2 54 arraycopyName, Cond.fieldLink RX2 15 "HopCredits$Link" "updateAt" "[I", Cond.fieldLink RX2 18 "HopCredits$Link" "probesAt" "[I", Cond.fieldLink RX2 23 "HopCredits$Link" "lanes" "[LHopCredits$Lane;", Cond.methodLink RX2 60 yX1_copy, Cond.instanceMethod yX1_copy, Cond.selects RX1 yX1_copy yX1_copy, Cond.initialized RX1, Cond.code yX1_copy cX1_copy 2 none, Cond.fieldLink RX1 9 "HopCredits$Lane" "sent" "I", Cond.fieldLink RX1 15 "HopCredits$Lane" "gone" "I", Cond.fieldLink RX1 18 "HopCredits$Lane" "known" "I", Cond.fieldLink RX1 21 "HopCredits$Lane" "zone" "I", Cond.fieldLink RX1 24 "HopCredits$Lane" "waited" "I", Cond.fieldLink RX1 27 "HopCredits$Lane" "sinceUpdate" "I", Cond.fieldLink RX1 30 "HopCredits$Lane" "sinceAdapt" "I", Cond.methodLink RX3 91 yX0_copy, Cond.instanceMethod yX0_copy]
def wsX6_learns_r4 : List Cond := [Cond.selects RX0 yX0_copy yX0_copy, Cond.initialized RX0, Cond.code yX0_copy cX0_copy 2 none, Cond.fieldLink RX0 7 "HopCredits$Flow" "gap" "I", Cond.fieldLink RX0 13 "HopCredits$Flow" "start" "I", Cond.fieldLink RX0 16 "HopCredits$Flow" "takes" "I", Cond.fieldLink RX0 19 "HopCredits$Flow" "came" "I", Cond.fieldLink RX0 22 "HopCredits$Flow" "spilt" "I", Cond.fieldLink RX0 25 "HopCredits$Flow" "delivered" "I", Cond.fieldLink RX0 28 "HopCredits$Flow" "cameNow" "Z", Cond.fieldLink RX0 32 "HopCredits$Flow" "deliveredNow" "Z", Cond.methodLink RX6 310 yX6_reaches, Cond.static yX6_reaches, Cond.code yX6_reaches cX6_reaches 2 (some .boolean), Cond.methodLink RX6 233 yX3_step, Cond.instanceMethod yX3_step, Cond.selects RX3 yX3_step yX3_step, Cond.code yX3_step cX3_step 2 none, Cond.methodLink RX3 103 yX3_arriveOver, Cond.instanceMethod yX3_arriveOver, Cond.selects RX3 yX3_arriveOver yX3_arriveOver, Cond.code yX3_arriveOver cX3_arriveOver 9 none, Cond.fieldLink RX3 122 "HopCredits$Link" "cellAt" "[I", Cond.fieldLink RX3 125 "HopCredits$Link" "updateAt" "[I"]
def wsX6_learns_r5 : List Cond := [Cond.fieldLink RX3 128 "HopCredits$Link" "lanes" "[LHopCredits$Lane;", Cond.fieldLink RX3 137 "HopCredits$Link" "probesAt" "[I", Cond.methodLink RX3 132 yX1_hear, Cond.instanceMethod yX1_hear, Cond.selects RX1 yX1_hear yX1_hear, Cond.code yX1_hear cX1_hear 2 none, Cond.methodLink RX3 140 yX3_sendUpdate, Cond.instanceMethod yX3_sendUpdate, Cond.selects RX3 yX3_sendUpdate yX3_sendUpdate, Cond.code yX3_sendUpdate cX3_sendUpdate 3 none, Cond.fieldLink RX3 207 "HopCredits$Link" "jammed" "I", Cond.fieldLink RX3 183 "HopCredits$Link" "delay" "I", Cond.fieldLink RX3 198 "HopCredits$Lane" "gone" "I", Cond.methodLink RX3 144 yX2_clearSlot, Cond.instanceMethod yX2_clearSlot, Cond.selects RX2 yX2_clearSlot yX2_clearSlot, Cond.code yX2_clearSlot cX2_clearSlot 3 none, Cond.methodLink RX3 107 yX3_come, Cond.instanceMethod yX3_come, Cond.selects RX3 yX3_come yX3_come, Cond.code yX3_come cX3_come 3 none, Cond.fieldLink RX3 147 "HopCredits$Flow" "cameNow" "Z", Cond.fieldLink RX3 155 "HopCredits$Flow" "came" "I", Cond.fieldLink RX3 158 "HopCredits$Flow" "spilt" "I"]
def wsX6_learns_r6 : List Cond := [Cond.methodLink RX3 151 yX0_comesIn, Cond.instanceMethod yX0_comesIn, Cond.selects RX0 yX0_comesIn yX0_comesIn, Cond.code yX0_comesIn cX0_comesIn 2 (some .boolean), Cond.methodLink RX3 110 yX3_take, Cond.instanceMethod yX3_take, Cond.selects RX3 yX3_take yX3_take, Cond.code yX3_take cX3_take 4 none, Cond.fieldLink RX3 164 "HopCredits$Flow" "deliveredNow" "Z", Cond.fieldLink RX3 167 "HopCredits$Flow" "delivered" "I", Cond.methodLink RX3 161 yX0_takesIn, Cond.instanceMethod yX0_takesIn, Cond.selects RX0 yX0_takesIn yX0_takesIn, Cond.code yX0_takesIn cX0_takesIn 2 (some .boolean), Cond.methodLink RX3 170 yX3_goneFrom, Cond.instanceMethod yX3_goneFrom, Cond.selects RX3 yX3_goneFrom yX3_goneFrom, Cond.code yX3_goneFrom cX3_goneFrom 5 none, Cond.fieldLink RX3 201 "HopCredits$Lane" "sinceUpdate" "I", Cond.fieldLink RX3 204 "HopCredits$Link" "every" "I", Cond.methodLink RX3 113 yX3_sendOver, Cond.instanceMethod yX3_sendOver, Cond.selects RX3 yX3_sendOver yX3_sendOver, Cond.code yX3_sendOver cX3_sendOver 5 none]
def wsX6_learns_r7 : List Cond := [Cond.fieldLink RX3 177 "HopCredits$Link" "sender" "I", Cond.fieldLink RX3 180 "HopCredits$Link" "latest" "I", Cond.fieldLink RX3 186 "HopCredits$Lane" "sent" "I", Cond.fieldLink RX3 189 "HopCredits$Lane" "sinceAdapt" "I", Cond.methodLink RX3 174 yX3_nextSender, Cond.instanceMethod yX3_nextSender, Cond.selects RX3 yX3_nextSender yX3_nextSender, Cond.code yX3_nextSender cX3_nextSender 6 (some .int), Cond.fieldLink RX3 195 "HopCredits$Lane" "zone" "I", Cond.methodLink RX3 192 yX1_out, Cond.instanceMethod yX1_out, Cond.selects RX1 yX1_out yX1_out, Cond.code yX1_out cX1_out 1 (some .int), Cond.methodLink RX3 116 yX3_waitAt, Cond.instanceMethod yX3_waitAt, Cond.selects RX3 yX3_waitAt yX3_waitAt, Cond.code yX3_waitAt cX3_waitAt 4 none, Cond.fieldLink RX3 210 "HopCredits$Lane" "waited" "I", Cond.methodLink RX3 213 yX3_lacksCredit, Cond.instanceMethod yX3_lacksCredit, Cond.selects RX3 yX3_lacksCredit yX3_lacksCredit, Cond.code yX3_lacksCredit cX3_lacksCredit 3 (some .boolean), Cond.methodLink RX3 217 yX3_sendProbe, Cond.instanceMethod yX3_sendProbe]
def wsX6_learns_r8 : List Cond := [Cond.selects RX3 yX3_sendProbe yX3_sendProbe, Cond.code yX3_sendProbe cX3_sendProbe 3 none, Cond.methodLink RX3 119 yX3_adapt, Cond.instanceMethod yX3_adapt, Cond.selects RX3 yX3_adapt yX3_adapt, Cond.code yX3_adapt cX3_adapt 5 none, Cond.methodLink RX3 224 Lib.Math.min.name, Cond.static Lib.Math.min.name, Cond.initialized "java/lang/Math", Cond.code Lib.Math.min.name Lib.Math.min.code 2 (some .int), Cond.methodLink RX3 64 Lib.Math.max.name, Cond.static Lib.Math.max.name, Cond.code Lib.Math.max.name Lib.Math.max.code 2 (some .int), Cond.methodLink RX3 220 yX3_aimOf, Cond.instanceMethod yX3_aimOf, Cond.selects RX3 yX3_aimOf yX3_aimOf, Cond.code yX3_aimOf cX3_aimOf 5 (some .int), Cond.fieldLink RX3 230 "HopCredits$Link" "pool" "I", Cond.methodLink RX3 227 yX2_roomFor, Cond.instanceMethod yX2_roomFor, Cond.selects RX2 yX2_roomFor yX2_roomFor, Cond.code yX2_roomFor cX2_roomFor 5 (some .int), Cond.fieldLink RX2 64 "HopCredits$Lane" "zone" "I", Cond.methodLink RX2 71 Lib.Math.max.name]
def wsX6_learns_r9 : List Cond := [Cond.methodLink RX2 67 yX1_out]
def wsX6_learns : List Cond := .code yX6_learns cX6_learns 6 (some .int) :: ((wsX6_learns_r1 ++ (wsX6_learns_r2 ++ (wsX6_learns_r3 ++ (wsX6_learns_r4 ++ (wsX6_learns_r5 ++ (wsX6_learns_r6 ++ (wsX6_learns_r7 ++ (wsX6_learns_r8 ++ wsX6_learns_r9)))))))) ++ wsX60 ++ wsX30 ++ wsX20 ++ wsX10 ++ wsX00)
def wsX6_stuck_r1 : List Cond := [Cond.fieldLink RX6 70 "HopCredits" "laid" "Z", Cond.fieldLink RX6 26 "HopCredits" "now" "LHopCredits$Net;", Cond.fieldLink RX6 30 "HopCredits" "apart" "LHopCredits$Net;", Cond.methodLink RX6 313 yX3_cellsOfAll, Cond.instanceMethod yX3_cellsOfAll, Cond.selects RX3 yX3_cellsOfAll yX3_cellsOfAll, Cond.initialized RX3, Cond.code yX3_cellsOfAll cX3_cellsOfAll 3 (some .int), Cond.fieldLink RX3 62 "HopCredits$Net" "circuits" "I", Cond.methodLink RX3 239 yX3_cellsOf, Cond.instanceMethod yX3_cellsOf, Cond.selects RX3 yX3_cellsOf yX3_cellsOf, Cond.code yX3_cellsOf cX3_cellsOf 4 (some .int), Cond.fieldLink RX3 53 "HopCredits$Net" "hops" "I", Cond.fieldLink RX3 11 "HopCredits$Net" "links" "[LHopCredits$Link;", Cond.methodLink RX3 233 yX3_waitingAt, Cond.instanceMethod yX3_waitingAt, Cond.selects RX3 yX3_waitingAt yX3_waitingAt, Cond.code yX3_waitingAt cX3_waitingAt 3 (some .int), Cond.fieldLink RX3 23 "HopCredits$Net" "buffers" "[I", Cond.methodLink RX3 236 yX2_cellsOnOf, Cond.instanceMethod yX2_cellsOnOf, Cond.selects RX2 yX2_cellsOnOf yX2_cellsOnOf, Cond.initialized RX2]
def wsX6_stuck_r2 : List Cond := [Cond.code yX2_cellsOnOf cX2_cellsOnOf 4 (some .int), Cond.fieldLink RX2 9 "HopCredits$Link" "cellAt" "[I", Cond.methodLink RX6 270 yX3_copy, Cond.instanceMethod yX3_copy, Cond.selects RX3 yX3_copy yX3_copy, Cond.code yX3_copy cX3_copy 3 none, Cond.fieldLink RX3 59 "HopCredits$Net" "reserve" "I", Cond.fieldLink RX3 46 "HopCredits$Net" "adapts" "I", Cond.fieldLink RX3 50 "HopCredits$Net" "probes" "I", Cond.fieldLink RX3 78 "HopCredits$Net" "tick" "I", Cond.fieldLink RX3 81 "HopCredits$Net" "lost" "I", Cond.fieldLink RX3 84 "HopCredits$Net" "probesSent" "I", Cond.fieldLink RX3 19 "HopCredits$Net" "flows" "[LHopCredits$Flow;", Cond.methodLink RX3 94 arraycopyName, Cond.native arraycopyName, Cond.static arraycopyName, Cond.initialized "java/lang/System", Cond.methodLink RX3 87 yX2_copy, Cond.instanceMethod yX2_copy, Cond.selects RX2 yX2_copy yX2_copy, Cond.code yX2_copy cX2_copy 3 none, Cond.fieldLink RX2 28 "HopCredits$Link" "delay" "I", Cond.fieldLink RX2 32 "HopCredits$Link" "pool" "I", Cond.fieldLink RX2 35 "HopCredits$Link" "every" "I"]
def wsX6_stuck_r3 : List Cond := [Cond.fieldLink RX2 38 "HopCredits$Link" "jammed" "I", Cond.fieldLink RX2 41 "HopCredits$Link" "latest" "I", Cond.fieldLink RX2 44 "HopCredits$Link" "sender" "I", Cond.methodLink RX2 54 arraycopyName, Cond.fieldLink RX2 15 "HopCredits$Link" "updateAt" "[I", Cond.fieldLink RX2 18 "HopCredits$Link" "probesAt" "[I", Cond.fieldLink RX2 23 "HopCredits$Link" "lanes" "[LHopCredits$Lane;", Cond.methodLink RX2 60 yX1_copy, Cond.instanceMethod yX1_copy, Cond.selects RX1 yX1_copy yX1_copy, Cond.initialized RX1, Cond.code yX1_copy cX1_copy 2 none, Cond.fieldLink RX1 9 "HopCredits$Lane" "sent" "I", Cond.fieldLink RX1 15 "HopCredits$Lane" "gone" "I", Cond.fieldLink RX1 18 "HopCredits$Lane" "known" "I", Cond.fieldLink RX1 21 "HopCredits$Lane" "zone" "I", Cond.fieldLink RX1 24 "HopCredits$Lane" "waited" "I", Cond.fieldLink RX1 27 "HopCredits$Lane" "sinceUpdate" "I", Cond.fieldLink RX1 30 "HopCredits$Lane" "sinceAdapt" "I", Cond.methodLink RX3 91 yX0_copy, Cond.instanceMethod yX0_copy, Cond.selects RX0 yX0_copy yX0_copy, Cond.initialized RX0, Cond.code yX0_copy cX0_copy 2 none]
def wsX6_stuck_r4 : List Cond := [Cond.fieldLink RX0 7 "HopCredits$Flow" "gap" "I", Cond.fieldLink RX0 13 "HopCredits$Flow" "start" "I", Cond.fieldLink RX0 16 "HopCredits$Flow" "takes" "I", Cond.fieldLink RX0 19 "HopCredits$Flow" "came" "I", Cond.fieldLink RX0 22 "HopCredits$Flow" "spilt" "I", Cond.fieldLink RX0 25 "HopCredits$Flow" "delivered" "I", Cond.fieldLink RX0 28 "HopCredits$Flow" "cameNow" "Z", Cond.fieldLink RX0 32 "HopCredits$Flow" "deliveredNow" "Z", Cond.methodLink RX6 233 yX3_step, Cond.instanceMethod yX3_step, Cond.selects RX3 yX3_step yX3_step, Cond.code yX3_step cX3_step 2 none, Cond.methodLink RX3 103 yX3_arriveOver, Cond.instanceMethod yX3_arriveOver, Cond.selects RX3 yX3_arriveOver yX3_arriveOver, Cond.code yX3_arriveOver cX3_arriveOver 9 none, Cond.fieldLink RX3 122 "HopCredits$Link" "cellAt" "[I", Cond.fieldLink RX3 125 "HopCredits$Link" "updateAt" "[I", Cond.fieldLink RX3 128 "HopCredits$Link" "lanes" "[LHopCredits$Lane;", Cond.fieldLink RX3 137 "HopCredits$Link" "probesAt" "[I", Cond.methodLink RX3 132 yX1_hear, Cond.instanceMethod yX1_hear, Cond.selects RX1 yX1_hear yX1_hear, Cond.code yX1_hear cX1_hear 2 none]
def wsX6_stuck_r5 : List Cond := [Cond.static yX6_reaches, Cond.initialized RX6, Cond.code yX6_reaches cX6_reaches 2 (some .boolean), Cond.methodLink RX3 140 yX3_sendUpdate, Cond.instanceMethod yX3_sendUpdate, Cond.selects RX3 yX3_sendUpdate yX3_sendUpdate, Cond.code yX3_sendUpdate cX3_sendUpdate 3 none, Cond.fieldLink RX3 207 "HopCredits$Link" "jammed" "I", Cond.fieldLink RX3 183 "HopCredits$Link" "delay" "I", Cond.fieldLink RX3 198 "HopCredits$Lane" "gone" "I", Cond.methodLink RX3 144 yX2_clearSlot, Cond.instanceMethod yX2_clearSlot, Cond.selects RX2 yX2_clearSlot yX2_clearSlot, Cond.code yX2_clearSlot cX2_clearSlot 3 none, Cond.methodLink RX3 107 yX3_come, Cond.instanceMethod yX3_come, Cond.selects RX3 yX3_come yX3_come, Cond.code yX3_come cX3_come 3 none, Cond.fieldLink RX3 147 "HopCredits$Flow" "cameNow" "Z", Cond.fieldLink RX3 155 "HopCredits$Flow" "came" "I", Cond.fieldLink RX3 158 "HopCredits$Flow" "spilt" "I", Cond.methodLink RX3 151 yX0_comesIn, Cond.instanceMethod yX0_comesIn, Cond.selects RX0 yX0_comesIn yX0_comesIn]
def wsX6_stuck_r6 : List Cond := [Cond.code yX0_comesIn cX0_comesIn 2 (some .boolean), Cond.methodLink RX3 110 yX3_take, Cond.instanceMethod yX3_take, Cond.selects RX3 yX3_take yX3_take, Cond.code yX3_take cX3_take 4 none, Cond.fieldLink RX3 164 "HopCredits$Flow" "deliveredNow" "Z", Cond.fieldLink RX3 167 "HopCredits$Flow" "delivered" "I", Cond.methodLink RX3 161 yX0_takesIn, Cond.instanceMethod yX0_takesIn, Cond.selects RX0 yX0_takesIn yX0_takesIn, Cond.code yX0_takesIn cX0_takesIn 2 (some .boolean), Cond.methodLink RX3 170 yX3_goneFrom, Cond.instanceMethod yX3_goneFrom, Cond.selects RX3 yX3_goneFrom yX3_goneFrom, Cond.code yX3_goneFrom cX3_goneFrom 5 none, Cond.fieldLink RX3 201 "HopCredits$Lane" "sinceUpdate" "I", Cond.fieldLink RX3 204 "HopCredits$Link" "every" "I", Cond.methodLink RX3 113 yX3_sendOver, Cond.instanceMethod yX3_sendOver, Cond.selects RX3 yX3_sendOver yX3_sendOver, Cond.code yX3_sendOver cX3_sendOver 5 none, Cond.fieldLink RX3 177 "HopCredits$Link" "sender" "I", Cond.fieldLink RX3 180 "HopCredits$Link" "latest" "I", Cond.fieldLink RX3 186 "HopCredits$Lane" "sent" "I"]
def wsX6_stuck_r7 : List Cond := [Cond.fieldLink RX3 189 "HopCredits$Lane" "sinceAdapt" "I", Cond.methodLink RX3 174 yX3_nextSender, Cond.instanceMethod yX3_nextSender, Cond.selects RX3 yX3_nextSender yX3_nextSender, Cond.code yX3_nextSender cX3_nextSender 6 (some .int), Cond.fieldLink RX3 195 "HopCredits$Lane" "zone" "I", Cond.methodLink RX3 192 yX1_out, Cond.instanceMethod yX1_out, Cond.selects RX1 yX1_out yX1_out, Cond.code yX1_out cX1_out 1 (some .int), Cond.methodLink RX3 116 yX3_waitAt, Cond.instanceMethod yX3_waitAt, Cond.selects RX3 yX3_waitAt yX3_waitAt, Cond.code yX3_waitAt cX3_waitAt 4 none, Cond.fieldLink RX3 210 "HopCredits$Lane" "waited" "I", Cond.methodLink RX3 213 yX3_lacksCredit, Cond.instanceMethod yX3_lacksCredit, Cond.selects RX3 yX3_lacksCredit yX3_lacksCredit, Cond.code yX3_lacksCredit cX3_lacksCredit 3 (some .boolean), Cond.methodLink RX3 217 yX3_sendProbe, Cond.instanceMethod yX3_sendProbe, Cond.selects RX3 yX3_sendProbe yX3_sendProbe, Cond.code yX3_sendProbe cX3_sendProbe 3 none, Cond.methodLink RX3 119 yX3_adapt]
def wsX6_stuck_r8 : List Cond := [Cond.instanceMethod yX3_adapt, Cond.selects RX3 yX3_adapt yX3_adapt, Cond.code yX3_adapt cX3_adapt 5 none, Cond.methodLink RX3 224 Lib.Math.min.name, Cond.static Lib.Math.min.name, Cond.initialized "java/lang/Math", Cond.code Lib.Math.min.name Lib.Math.min.code 2 (some .int), Cond.methodLink RX3 64 Lib.Math.max.name, Cond.static Lib.Math.max.name, Cond.code Lib.Math.max.name Lib.Math.max.code 2 (some .int), Cond.methodLink RX3 220 yX3_aimOf, Cond.instanceMethod yX3_aimOf, Cond.selects RX3 yX3_aimOf yX3_aimOf, Cond.code yX3_aimOf cX3_aimOf 5 (some .int), Cond.fieldLink RX3 230 "HopCredits$Link" "pool" "I", Cond.methodLink RX3 227 yX2_roomFor, Cond.instanceMethod yX2_roomFor, Cond.selects RX2 yX2_roomFor yX2_roomFor, Cond.code yX2_roomFor cX2_roomFor 5 (some .int), Cond.fieldLink RX2 64 "HopCredits$Lane" "zone" "I", Cond.methodLink RX2 71 Lib.Math.max.name, Cond.methodLink RX2 67 yX1_out, Cond.methodLink RX6 316 yX3_movedNow, Cond.instanceMethod yX3_movedNow]
def wsX6_stuck_r9 : List Cond := [Cond.selects RX3 yX3_movedNow yX3_movedNow, Cond.code yX3_movedNow cX3_movedNow 2 (some .boolean)]
def wsX6_stuck : List Cond := .code yX6_stuck cX6_stuck 2 (some .boolean) :: ((wsX6_stuck_r1 ++ (wsX6_stuck_r2 ++ (wsX6_stuck_r3 ++ (wsX6_stuck_r4 ++ (wsX6_stuck_r5 ++ (wsX6_stuck_r6 ++ (wsX6_stuck_r7 ++ (wsX6_stuck_r8 ++ wsX6_stuck_r9)))))))) ++ wsX60 ++ wsX30 ++ wsX20 ++ wsX10 ++ wsX00)
def wsX6_would_r1 : List Cond := [Cond.methodLink RX6 248 yX6_zoneRefusal, Cond.instanceMethod yX6_zoneRefusal, Cond.selects RX6 yX6_zoneRefusal yX6_zoneRefusal, Cond.initialized RX6, Cond.code yX6_zoneRefusal cX6_zoneRefusal 5 (some .int), Cond.fieldLink RX6 26 "HopCredits" "now" "LHopCredits$Net;", Cond.fieldLink RX6 104 "HopCredits$Net" "links" "[LHopCredits$Link;", Cond.fieldLink RX6 81 "HopCredits$Net" "reserve" "I", Cond.fieldLink RX6 113 "HopCredits$Link" "pool" "I", Cond.fieldLink RX6 175 "HopCredits$Link" "lanes" "[LHopCredits$Lane;", Cond.fieldLink RX6 190 "HopCredits$Lane" "zone" "I", Cond.methodLink RX6 167 yX6_isLane, Cond.instanceMethod yX6_isLane, Cond.selects RX6 yX6_isLane yX6_isLane, Cond.code yX6_isLane cX6_isLane 3 (some .boolean), Cond.methodLink RX6 93 yX6_isHop, Cond.instanceMethod yX6_isHop, Cond.selects RX6 yX6_isHop yX6_isHop, Cond.code yX6_isHop cX6_isHop 2 (some .boolean), Cond.fieldLink RX6 70 "HopCredits" "laid" "Z", Cond.fieldLink RX6 78 "HopCredits$Net" "hops" "I", Cond.methodLink RX6 135 yX6_isCircuit, Cond.instanceMethod yX6_isCircuit, Cond.selects RX6 yX6_isCircuit yX6_isCircuit]
def wsX6_would_r2 : List Cond := [Cond.code yX6_isCircuit cX6_isCircuit 2 (some .boolean), Cond.fieldLink RX6 74 "HopCredits$Net" "circuits" "I", Cond.methodLink RX6 55 yX6_outside, Cond.static yX6_outside, Cond.code yX6_outside cX6_outside 3 (some .boolean), Cond.methodLink RX6 252 yX6_largestZone, Cond.instanceMethod yX6_largestZone, Cond.selects RX6 yX6_largestZone yX6_largestZone, Cond.code yX6_largestZone cX6_largestZone 4 (some .int), Cond.methodLink RX6 258 Lib.Math.max.name, Cond.static Lib.Math.max.name, Cond.initialized "java/lang/Math", Cond.code Lib.Math.max.name Lib.Math.max.code 2 (some .int), Cond.methodLink RX6 255 yX2_roomFor, Cond.instanceMethod yX2_roomFor, Cond.selects RX2 yX2_roomFor yX2_roomFor, Cond.initialized RX2, Cond.code yX2_roomFor cX2_roomFor 5 (some .int), Cond.fieldLink RX2 32 "HopCredits$Link" "pool" "I", Cond.fieldLink RX2 23 "HopCredits$Link" "lanes" "[LHopCredits$Lane;", Cond.fieldLink RX2 64 "HopCredits$Lane" "zone" "I", Cond.methodLink RX2 71 Lib.Math.max.name, Cond.methodLink RX2 67 yX1_out, Cond.instanceMethod yX1_out]
def wsX6_would_r3 : List Cond := [Cond.selects RX1 yX1_out yX1_out, Cond.initialized RX1, Cond.code yX1_out cX1_out 1 (some .int), Cond.fieldLink RX1 9 "HopCredits$Lane" "sent" "I", Cond.fieldLink RX1 18 "HopCredits$Lane" "known" "I", Cond.methodLink RX6 320 yX6_deliveredByZone, Cond.instanceMethod yX6_deliveredByZone, Cond.selects RX6 yX6_deliveredByZone yX6_deliveredByZone, Cond.code yX6_deliveredByZone cX6_deliveredByZone 5 (some .int), Cond.fieldLink RX6 30 "HopCredits" "apart" "LHopCredits$Net;", Cond.methodLink RX6 270 yX3_copy, Cond.instanceMethod yX3_copy, Cond.selects RX3 yX3_copy yX3_copy, Cond.initialized RX3, Cond.code yX3_copy cX3_copy 3 none, Cond.fieldLink RX3 53 "HopCredits$Net" "hops" "I", Cond.fieldLink RX3 62 "HopCredits$Net" "circuits" "I", Cond.fieldLink RX3 59 "HopCredits$Net" "reserve" "I", Cond.fieldLink RX3 46 "HopCredits$Net" "adapts" "I", Cond.fieldLink RX3 50 "HopCredits$Net" "probes" "I", Cond.fieldLink RX3 78 "HopCredits$Net" "tick" "I", Cond.fieldLink RX3 81 "HopCredits$Net" "lost" "I", Cond.fieldLink RX3 84 "HopCredits$Net" "probesSent" "I", Cond.fieldLink RX3 11 "HopCredits$Net" "links" "[LHopCredits$Link;"]
def wsX6_would_r4 : List Cond := [Cond.fieldLink RX3 19 "HopCredits$Net" "flows" "[LHopCredits$Flow;", Cond.fieldLink RX3 23 "HopCredits$Net" "buffers" "[I", Cond.methodLink RX3 94 arraycopyName, Cond.native arraycopyName, Cond.static arraycopyName, Cond.initialized "java/lang/System", Cond.methodLink RX3 87 yX2_copy, Cond.instanceMethod yX2_copy, Cond.selects RX2 yX2_copy yX2_copy, Cond.code yX2_copy cX2_copy 3 none, Cond.fieldLink RX2 28 "HopCredits$Link" "delay" "I", Cond.fieldLink RX2 35 "HopCredits$Link" "every" "I", Cond.fieldLink RX2 38 "HopCredits$Link" "jammed" "I", Cond.fieldLink RX2 41 "HopCredits$Link" "latest" "I", Cond.fieldLink RX2 44 "HopCredits$Link" "sender" "I", Cond.fieldLink RX2 9 "HopCredits$Link" "cellAt" "[I", Cond.methodLink RX2 54 arraycopyName, Cond.fieldLink RX2 15 "HopCredits$Link" "updateAt" "[I", Cond.fieldLink RX2 18 "HopCredits$Link" "probesAt" "[I", Cond.methodLink RX2 60 yX1_copy, Cond.instanceMethod yX1_copy, Cond.selects RX1 yX1_copy yX1_copy, Cond.code yX1_copy cX1_copy 2 none, Cond.fieldLink RX1 15 "HopCredits$Lane" "gone" "I"]
def wsX6_would_r5 : List Cond := [Cond.fieldLink RX1 21 "HopCredits$Lane" "zone" "I", Cond.fieldLink RX1 24 "HopCredits$Lane" "waited" "I", Cond.fieldLink RX1 27 "HopCredits$Lane" "sinceUpdate" "I", Cond.fieldLink RX1 30 "HopCredits$Lane" "sinceAdapt" "I", Cond.methodLink RX3 91 yX0_copy, Cond.instanceMethod yX0_copy, Cond.selects RX0 yX0_copy yX0_copy, Cond.initialized RX0, Cond.code yX0_copy cX0_copy 2 none, Cond.fieldLink RX0 7 "HopCredits$Flow" "gap" "I", Cond.fieldLink RX0 13 "HopCredits$Flow" "start" "I", Cond.fieldLink RX0 16 "HopCredits$Flow" "takes" "I", Cond.fieldLink RX0 19 "HopCredits$Flow" "came" "I", Cond.fieldLink RX0 22 "HopCredits$Flow" "spilt" "I", Cond.fieldLink RX0 25 "HopCredits$Flow" "delivered" "I", Cond.fieldLink RX0 28 "HopCredits$Flow" "cameNow" "Z", Cond.fieldLink RX0 32 "HopCredits$Flow" "deliveredNow" "Z", Cond.methodLink RX6 274 yX3_steps, Cond.instanceMethod yX3_steps, Cond.selects RX3 yX3_steps yX3_steps, Cond.code yX3_steps cX3_steps 3 none, Cond.methodLink RX3 100 yX3_step, Cond.instanceMethod yX3_step, Cond.selects RX3 yX3_step yX3_step]
def wsX6_would_r6 : List Cond := [Cond.code yX3_step cX3_step 2 none, Cond.methodLink RX3 103 yX3_arriveOver, Cond.instanceMethod yX3_arriveOver, Cond.selects RX3 yX3_arriveOver yX3_arriveOver, Cond.code yX3_arriveOver cX3_arriveOver 9 none, Cond.fieldLink RX3 122 "HopCredits$Link" "cellAt" "[I", Cond.fieldLink RX3 125 "HopCredits$Link" "updateAt" "[I", Cond.fieldLink RX3 128 "HopCredits$Link" "lanes" "[LHopCredits$Lane;", Cond.fieldLink RX3 137 "HopCredits$Link" "probesAt" "[I", Cond.methodLink RX3 132 yX1_hear, Cond.instanceMethod yX1_hear, Cond.selects RX1 yX1_hear yX1_hear, Cond.code yX1_hear cX1_hear 2 none, Cond.static yX6_reaches, Cond.code yX6_reaches cX6_reaches 2 (some .boolean), Cond.methodLink RX3 140 yX3_sendUpdate, Cond.instanceMethod yX3_sendUpdate, Cond.selects RX3 yX3_sendUpdate yX3_sendUpdate, Cond.code yX3_sendUpdate cX3_sendUpdate 3 none, Cond.fieldLink RX3 207 "HopCredits$Link" "jammed" "I", Cond.fieldLink RX3 183 "HopCredits$Link" "delay" "I", Cond.fieldLink RX3 198 "HopCredits$Lane" "gone" "I", Cond.methodLink RX3 144 yX2_clearSlot, Cond.instanceMethod yX2_clearSlot]
def wsX6_would_r7 : List Cond := [Cond.selects RX2 yX2_clearSlot yX2_clearSlot, Cond.code yX2_clearSlot cX2_clearSlot 3 none, Cond.methodLink RX3 107 yX3_come, Cond.instanceMethod yX3_come, Cond.selects RX3 yX3_come yX3_come, Cond.code yX3_come cX3_come 3 none, Cond.fieldLink RX3 147 "HopCredits$Flow" "cameNow" "Z", Cond.fieldLink RX3 155 "HopCredits$Flow" "came" "I", Cond.fieldLink RX3 158 "HopCredits$Flow" "spilt" "I", Cond.methodLink RX3 151 yX0_comesIn, Cond.instanceMethod yX0_comesIn, Cond.selects RX0 yX0_comesIn yX0_comesIn, Cond.code yX0_comesIn cX0_comesIn 2 (some .boolean), Cond.methodLink RX3 110 yX3_take, Cond.instanceMethod yX3_take, Cond.selects RX3 yX3_take yX3_take, Cond.code yX3_take cX3_take 4 none, Cond.fieldLink RX3 164 "HopCredits$Flow" "deliveredNow" "Z", Cond.fieldLink RX3 167 "HopCredits$Flow" "delivered" "I", Cond.methodLink RX3 161 yX0_takesIn, Cond.instanceMethod yX0_takesIn, Cond.selects RX0 yX0_takesIn yX0_takesIn, Cond.code yX0_takesIn cX0_takesIn 2 (some .boolean), Cond.methodLink RX3 170 yX3_goneFrom]
def wsX6_would_r8 : List Cond := [Cond.instanceMethod yX3_goneFrom, Cond.selects RX3 yX3_goneFrom yX3_goneFrom, Cond.code yX3_goneFrom cX3_goneFrom 5 none, Cond.fieldLink RX3 201 "HopCredits$Lane" "sinceUpdate" "I", Cond.fieldLink RX3 204 "HopCredits$Link" "every" "I", Cond.methodLink RX3 113 yX3_sendOver, Cond.instanceMethod yX3_sendOver, Cond.selects RX3 yX3_sendOver yX3_sendOver, Cond.code yX3_sendOver cX3_sendOver 5 none, Cond.fieldLink RX3 177 "HopCredits$Link" "sender" "I", Cond.fieldLink RX3 180 "HopCredits$Link" "latest" "I", Cond.fieldLink RX3 186 "HopCredits$Lane" "sent" "I", Cond.fieldLink RX3 189 "HopCredits$Lane" "sinceAdapt" "I", Cond.methodLink RX3 174 yX3_nextSender, Cond.instanceMethod yX3_nextSender, Cond.selects RX3 yX3_nextSender yX3_nextSender, Cond.code yX3_nextSender cX3_nextSender 6 (some .int), Cond.fieldLink RX3 195 "HopCredits$Lane" "zone" "I", Cond.methodLink RX3 192 yX1_out, Cond.methodLink RX3 116 yX3_waitAt, Cond.instanceMethod yX3_waitAt, Cond.selects RX3 yX3_waitAt yX3_waitAt, Cond.code yX3_waitAt cX3_waitAt 4 none, Cond.fieldLink RX3 210 "HopCredits$Lane" "waited" "I"]
def wsX6_would_r9 : List Cond := [Cond.methodLink RX3 213 yX3_lacksCredit, Cond.instanceMethod yX3_lacksCredit, Cond.selects RX3 yX3_lacksCredit yX3_lacksCredit, Cond.code yX3_lacksCredit cX3_lacksCredit 3 (some .boolean), Cond.methodLink RX3 217 yX3_sendProbe, Cond.instanceMethod yX3_sendProbe, Cond.selects RX3 yX3_sendProbe yX3_sendProbe, Cond.code yX3_sendProbe cX3_sendProbe 3 none, Cond.methodLink RX3 119 yX3_adapt, Cond.instanceMethod yX3_adapt, Cond.selects RX3 yX3_adapt yX3_adapt, Cond.code yX3_adapt cX3_adapt 5 none, Cond.methodLink RX3 224 Lib.Math.min.name, Cond.static Lib.Math.min.name, Cond.code Lib.Math.min.name Lib.Math.min.code 2 (some .int), Cond.methodLink RX3 64 Lib.Math.max.name, Cond.methodLink RX3 220 yX3_aimOf, Cond.instanceMethod yX3_aimOf, Cond.selects RX3 yX3_aimOf yX3_aimOf, Cond.code yX3_aimOf cX3_aimOf 5 (some .int), Cond.fieldLink RX3 230 "HopCredits$Link" "pool" "I", Cond.methodLink RX3 227 yX2_roomFor, Cond.methodLink RX6 277 yX6_deliveredApart, Cond.instanceMethod yX6_deliveredApart]
def wsX6_would_r10 : List Cond := [Cond.selects RX6 yX6_deliveredApart yX6_deliveredApart, Cond.code yX6_deliveredApart cX6_deliveredApart 1 (some .int), Cond.methodLink RX6 283 yX3_deliveredOfAll, Cond.instanceMethod yX3_deliveredOfAll, Cond.selects RX3 yX3_deliveredOfAll yX3_deliveredOfAll, Cond.code yX3_deliveredOfAll cX3_deliveredOfAll 3 (some .int)]
def wsX6_would : List Cond := .code yX6_would cX6_would 5 (some .int) :: ((wsX6_would_r1 ++ (wsX6_would_r2 ++ (wsX6_would_r3 ++ (wsX6_would_r4 ++ (wsX6_would_r5 ++ (wsX6_would_r6 ++ (wsX6_would_r7 ++ (wsX6_would_r8 ++ (wsX6_would_r9 ++ wsX6_would_r10))))))))) ++ wsX60 ++ wsX30 ++ wsX20 ++ wsX10 ++ wsX00)
def wsX6_bestZone_r1 : List Cond := [Cond.fieldLink RX6 26 "HopCredits" "now" "LHopCredits$Net;", Cond.fieldLink RX6 81 "HopCredits$Net" "reserve" "I", Cond.methodLink RX6 167 yX6_isLane, Cond.instanceMethod yX6_isLane, Cond.selects RX6 yX6_isLane yX6_isLane, Cond.initialized RX6, Cond.code yX6_isLane cX6_isLane 3 (some .boolean), Cond.methodLink RX6 93 yX6_isHop, Cond.instanceMethod yX6_isHop, Cond.selects RX6 yX6_isHop yX6_isHop, Cond.code yX6_isHop cX6_isHop 2 (some .boolean), Cond.fieldLink RX6 70 "HopCredits" "laid" "Z", Cond.fieldLink RX6 78 "HopCredits$Net" "hops" "I", Cond.methodLink RX6 135 yX6_isCircuit, Cond.instanceMethod yX6_isCircuit, Cond.selects RX6 yX6_isCircuit yX6_isCircuit, Cond.code yX6_isCircuit cX6_isCircuit 2 (some .boolean), Cond.fieldLink RX6 74 "HopCredits$Net" "circuits" "I", Cond.methodLink RX6 55 yX6_outside, Cond.static yX6_outside, Cond.code yX6_outside cX6_outside 3 (some .boolean), Cond.methodLink RX6 252 yX6_largestZone, Cond.instanceMethod yX6_largestZone, Cond.selects RX6 yX6_largestZone yX6_largestZone]
def wsX6_bestZone_r2 : List Cond := [Cond.code yX6_largestZone cX6_largestZone 4 (some .int), Cond.fieldLink RX6 104 "HopCredits$Net" "links" "[LHopCredits$Link;", Cond.fieldLink RX6 175 "HopCredits$Link" "lanes" "[LHopCredits$Lane;", Cond.fieldLink RX6 190 "HopCredits$Lane" "zone" "I", Cond.methodLink RX6 258 Lib.Math.max.name, Cond.static Lib.Math.max.name, Cond.initialized "java/lang/Math", Cond.code Lib.Math.max.name Lib.Math.max.code 2 (some .int), Cond.methodLink RX6 255 yX2_roomFor, Cond.instanceMethod yX2_roomFor, Cond.selects RX2 yX2_roomFor yX2_roomFor, Cond.initialized RX2, Cond.code yX2_roomFor cX2_roomFor 5 (some .int), Cond.fieldLink RX2 32 "HopCredits$Link" "pool" "I", Cond.fieldLink RX2 23 "HopCredits$Link" "lanes" "[LHopCredits$Lane;", Cond.fieldLink RX2 64 "HopCredits$Lane" "zone" "I", Cond.methodLink RX2 71 Lib.Math.max.name, Cond.methodLink RX2 67 yX1_out, Cond.instanceMethod yX1_out, Cond.selects RX1 yX1_out yX1_out, Cond.initialized RX1, Cond.code yX1_out cX1_out 1 (some .int), Cond.fieldLink RX1 9 "HopCredits$Lane" "sent" "I", Cond.fieldLink RX1 18 "HopCredits$Lane" "known" "I"]
def wsX6_bestZone_r3 : List Cond := [Cond.methodLink RX6 320 yX6_deliveredByZone, Cond.instanceMethod yX6_deliveredByZone, Cond.selects RX6 yX6_deliveredByZone yX6_deliveredByZone, Cond.code yX6_deliveredByZone cX6_deliveredByZone 5 (some .int), Cond.fieldLink RX6 30 "HopCredits" "apart" "LHopCredits$Net;", Cond.methodLink RX6 270 yX3_copy, Cond.instanceMethod yX3_copy, Cond.selects RX3 yX3_copy yX3_copy, Cond.initialized RX3, Cond.code yX3_copy cX3_copy 3 none, Cond.fieldLink RX3 53 "HopCredits$Net" "hops" "I", Cond.fieldLink RX3 62 "HopCredits$Net" "circuits" "I", Cond.fieldLink RX3 59 "HopCredits$Net" "reserve" "I", Cond.fieldLink RX3 46 "HopCredits$Net" "adapts" "I", Cond.fieldLink RX3 50 "HopCredits$Net" "probes" "I", Cond.fieldLink RX3 78 "HopCredits$Net" "tick" "I", Cond.fieldLink RX3 81 "HopCredits$Net" "lost" "I", Cond.fieldLink RX3 84 "HopCredits$Net" "probesSent" "I", Cond.fieldLink RX3 11 "HopCredits$Net" "links" "[LHopCredits$Link;", Cond.fieldLink RX3 19 "HopCredits$Net" "flows" "[LHopCredits$Flow;", Cond.fieldLink RX3 23 "HopCredits$Net" "buffers" "[I", Cond.methodLink RX3 94 arraycopyName, Cond.native arraycopyName, Cond.static arraycopyName]
def wsX6_bestZone_r4 : List Cond := [Cond.initialized "java/lang/System", Cond.methodLink RX3 87 yX2_copy, Cond.instanceMethod yX2_copy, Cond.selects RX2 yX2_copy yX2_copy, Cond.code yX2_copy cX2_copy 3 none, Cond.fieldLink RX2 28 "HopCredits$Link" "delay" "I", Cond.fieldLink RX2 35 "HopCredits$Link" "every" "I", Cond.fieldLink RX2 38 "HopCredits$Link" "jammed" "I", Cond.fieldLink RX2 41 "HopCredits$Link" "latest" "I", Cond.fieldLink RX2 44 "HopCredits$Link" "sender" "I", Cond.fieldLink RX2 9 "HopCredits$Link" "cellAt" "[I", Cond.methodLink RX2 54 arraycopyName, Cond.fieldLink RX2 15 "HopCredits$Link" "updateAt" "[I", Cond.fieldLink RX2 18 "HopCredits$Link" "probesAt" "[I", Cond.methodLink RX2 60 yX1_copy, Cond.instanceMethod yX1_copy, Cond.selects RX1 yX1_copy yX1_copy, Cond.code yX1_copy cX1_copy 2 none, Cond.fieldLink RX1 15 "HopCredits$Lane" "gone" "I", Cond.fieldLink RX1 21 "HopCredits$Lane" "zone" "I", Cond.fieldLink RX1 24 "HopCredits$Lane" "waited" "I", Cond.fieldLink RX1 27 "HopCredits$Lane" "sinceUpdate" "I", Cond.fieldLink RX1 30 "HopCredits$Lane" "sinceAdapt" "I", Cond.methodLink RX3 91 yX0_copy]
def wsX6_bestZone_r5 : List Cond := [Cond.instanceMethod yX0_copy, Cond.selects RX0 yX0_copy yX0_copy, Cond.initialized RX0, Cond.code yX0_copy cX0_copy 2 none, Cond.fieldLink RX0 7 "HopCredits$Flow" "gap" "I", Cond.fieldLink RX0 13 "HopCredits$Flow" "start" "I", Cond.fieldLink RX0 16 "HopCredits$Flow" "takes" "I", Cond.fieldLink RX0 19 "HopCredits$Flow" "came" "I", Cond.fieldLink RX0 22 "HopCredits$Flow" "spilt" "I", Cond.fieldLink RX0 25 "HopCredits$Flow" "delivered" "I", Cond.fieldLink RX0 28 "HopCredits$Flow" "cameNow" "Z", Cond.fieldLink RX0 32 "HopCredits$Flow" "deliveredNow" "Z", Cond.methodLink RX6 274 yX3_steps, Cond.instanceMethod yX3_steps, Cond.selects RX3 yX3_steps yX3_steps, Cond.code yX3_steps cX3_steps 3 none, Cond.methodLink RX3 100 yX3_step, Cond.instanceMethod yX3_step, Cond.selects RX3 yX3_step yX3_step, Cond.code yX3_step cX3_step 2 none, Cond.methodLink RX3 103 yX3_arriveOver, Cond.instanceMethod yX3_arriveOver, Cond.selects RX3 yX3_arriveOver yX3_arriveOver, Cond.code yX3_arriveOver cX3_arriveOver 9 none]
def wsX6_bestZone_r6 : List Cond := [Cond.fieldLink RX3 122 "HopCredits$Link" "cellAt" "[I", Cond.fieldLink RX3 125 "HopCredits$Link" "updateAt" "[I", Cond.fieldLink RX3 128 "HopCredits$Link" "lanes" "[LHopCredits$Lane;", Cond.fieldLink RX3 137 "HopCredits$Link" "probesAt" "[I", Cond.methodLink RX3 132 yX1_hear, Cond.instanceMethod yX1_hear, Cond.selects RX1 yX1_hear yX1_hear, Cond.code yX1_hear cX1_hear 2 none, Cond.static yX6_reaches, Cond.code yX6_reaches cX6_reaches 2 (some .boolean), Cond.methodLink RX3 140 yX3_sendUpdate, Cond.instanceMethod yX3_sendUpdate, Cond.selects RX3 yX3_sendUpdate yX3_sendUpdate, Cond.code yX3_sendUpdate cX3_sendUpdate 3 none, Cond.fieldLink RX3 207 "HopCredits$Link" "jammed" "I", Cond.fieldLink RX3 183 "HopCredits$Link" "delay" "I", Cond.fieldLink RX3 198 "HopCredits$Lane" "gone" "I", Cond.methodLink RX3 144 yX2_clearSlot, Cond.instanceMethod yX2_clearSlot, Cond.selects RX2 yX2_clearSlot yX2_clearSlot, Cond.code yX2_clearSlot cX2_clearSlot 3 none, Cond.methodLink RX3 107 yX3_come, Cond.instanceMethod yX3_come, Cond.selects RX3 yX3_come yX3_come]
def wsX6_bestZone_r7 : List Cond := [Cond.code yX3_come cX3_come 3 none, Cond.fieldLink RX3 147 "HopCredits$Flow" "cameNow" "Z", Cond.fieldLink RX3 155 "HopCredits$Flow" "came" "I", Cond.fieldLink RX3 158 "HopCredits$Flow" "spilt" "I", Cond.methodLink RX3 151 yX0_comesIn, Cond.instanceMethod yX0_comesIn, Cond.selects RX0 yX0_comesIn yX0_comesIn, Cond.code yX0_comesIn cX0_comesIn 2 (some .boolean), Cond.methodLink RX3 110 yX3_take, Cond.instanceMethod yX3_take, Cond.selects RX3 yX3_take yX3_take, Cond.code yX3_take cX3_take 4 none, Cond.fieldLink RX3 164 "HopCredits$Flow" "deliveredNow" "Z", Cond.fieldLink RX3 167 "HopCredits$Flow" "delivered" "I", Cond.methodLink RX3 161 yX0_takesIn, Cond.instanceMethod yX0_takesIn, Cond.selects RX0 yX0_takesIn yX0_takesIn, Cond.code yX0_takesIn cX0_takesIn 2 (some .boolean), Cond.methodLink RX3 170 yX3_goneFrom, Cond.instanceMethod yX3_goneFrom, Cond.selects RX3 yX3_goneFrom yX3_goneFrom, Cond.code yX3_goneFrom cX3_goneFrom 5 none, Cond.fieldLink RX3 201 "HopCredits$Lane" "sinceUpdate" "I", Cond.fieldLink RX3 204 "HopCredits$Link" "every" "I"]
def wsX6_bestZone_r8 : List Cond := [Cond.methodLink RX3 113 yX3_sendOver, Cond.instanceMethod yX3_sendOver, Cond.selects RX3 yX3_sendOver yX3_sendOver, Cond.code yX3_sendOver cX3_sendOver 5 none, Cond.fieldLink RX3 177 "HopCredits$Link" "sender" "I", Cond.fieldLink RX3 180 "HopCredits$Link" "latest" "I", Cond.fieldLink RX3 186 "HopCredits$Lane" "sent" "I", Cond.fieldLink RX3 189 "HopCredits$Lane" "sinceAdapt" "I", Cond.methodLink RX3 174 yX3_nextSender, Cond.instanceMethod yX3_nextSender, Cond.selects RX3 yX3_nextSender yX3_nextSender, Cond.code yX3_nextSender cX3_nextSender 6 (some .int), Cond.fieldLink RX3 195 "HopCredits$Lane" "zone" "I", Cond.methodLink RX3 192 yX1_out, Cond.methodLink RX3 116 yX3_waitAt, Cond.instanceMethod yX3_waitAt, Cond.selects RX3 yX3_waitAt yX3_waitAt, Cond.code yX3_waitAt cX3_waitAt 4 none, Cond.fieldLink RX3 210 "HopCredits$Lane" "waited" "I", Cond.methodLink RX3 213 yX3_lacksCredit, Cond.instanceMethod yX3_lacksCredit, Cond.selects RX3 yX3_lacksCredit yX3_lacksCredit, Cond.code yX3_lacksCredit cX3_lacksCredit 3 (some .boolean), Cond.methodLink RX3 217 yX3_sendProbe]
def wsX6_bestZone_r9 : List Cond := [Cond.instanceMethod yX3_sendProbe, Cond.selects RX3 yX3_sendProbe yX3_sendProbe, Cond.code yX3_sendProbe cX3_sendProbe 3 none, Cond.methodLink RX3 119 yX3_adapt, Cond.instanceMethod yX3_adapt, Cond.selects RX3 yX3_adapt yX3_adapt, Cond.code yX3_adapt cX3_adapt 5 none, Cond.methodLink RX3 224 Lib.Math.min.name, Cond.static Lib.Math.min.name, Cond.code Lib.Math.min.name Lib.Math.min.code 2 (some .int), Cond.methodLink RX3 64 Lib.Math.max.name, Cond.methodLink RX3 220 yX3_aimOf, Cond.instanceMethod yX3_aimOf, Cond.selects RX3 yX3_aimOf yX3_aimOf, Cond.code yX3_aimOf cX3_aimOf 5 (some .int), Cond.fieldLink RX3 230 "HopCredits$Link" "pool" "I", Cond.methodLink RX3 227 yX2_roomFor, Cond.methodLink RX6 277 yX6_deliveredApart, Cond.instanceMethod yX6_deliveredApart, Cond.selects RX6 yX6_deliveredApart yX6_deliveredApart, Cond.code yX6_deliveredApart cX6_deliveredApart 1 (some .int), Cond.methodLink RX6 283 yX3_deliveredOfAll, Cond.instanceMethod yX3_deliveredOfAll, Cond.selects RX3 yX3_deliveredOfAll yX3_deliveredOfAll]
def wsX6_bestZone_r10 : List Cond := [Cond.code yX3_deliveredOfAll cX3_deliveredOfAll 3 (some .int)]
def wsX6_bestZone : List Cond := .code yX6_bestZone cX6_bestZone 9 (some .int) :: ((wsX6_bestZone_r1 ++ (wsX6_bestZone_r2 ++ (wsX6_bestZone_r3 ++ (wsX6_bestZone_r4 ++ (wsX6_bestZone_r5 ++ (wsX6_bestZone_r6 ++ (wsX6_bestZone_r7 ++ (wsX6_bestZone_r8 ++ (wsX6_bestZone_r9 ++ wsX6_bestZone_r10))))))))) ++ wsX60 ++ wsX30 ++ wsX20 ++ wsX10 ++ wsX00)
def wsX6_bears_r1 : List Cond := [Cond.fieldLink RX6 70 "HopCredits" "laid" "Z", Cond.methodLink RX6 55 yX6_outside, Cond.static yX6_outside, Cond.initialized RX6, Cond.code yX6_outside cX6_outside 3 (some .boolean), Cond.methodLink RX6 267 yX6_goApart, Cond.instanceMethod yX6_goApart, Cond.selects RX6 yX6_goApart yX6_goApart, Cond.code yX6_goApart cX6_goApart 2 none, Cond.fieldLink RX6 30 "HopCredits" "apart" "LHopCredits$Net;", Cond.fieldLink RX6 26 "HopCredits" "now" "LHopCredits$Net;", Cond.methodLink RX6 270 yX3_copy, Cond.instanceMethod yX3_copy, Cond.selects RX3 yX3_copy yX3_copy, Cond.initialized RX3, Cond.code yX3_copy cX3_copy 3 none, Cond.fieldLink RX3 53 "HopCredits$Net" "hops" "I", Cond.fieldLink RX3 62 "HopCredits$Net" "circuits" "I", Cond.fieldLink RX3 59 "HopCredits$Net" "reserve" "I", Cond.fieldLink RX3 46 "HopCredits$Net" "adapts" "I", Cond.fieldLink RX3 50 "HopCredits$Net" "probes" "I", Cond.fieldLink RX3 78 "HopCredits$Net" "tick" "I", Cond.fieldLink RX3 81 "HopCredits$Net" "lost" "I", Cond.fieldLink RX3 84 "HopCredits$Net" "probesSent" "I"]
def wsX6_bears_r2 : List Cond := [Cond.fieldLink RX3 11 "HopCredits$Net" "links" "[LHopCredits$Link;", Cond.fieldLink RX3 19 "HopCredits$Net" "flows" "[LHopCredits$Flow;", Cond.fieldLink RX3 23 "HopCredits$Net" "buffers" "[I", Cond.methodLink RX3 94 arraycopyName, Cond.native arraycopyName, Cond.static arraycopyName, Cond.initialized "java/lang/System", Cond.methodLink RX3 87 yX2_copy, Cond.instanceMethod yX2_copy, Cond.selects RX2 yX2_copy yX2_copy, Cond.initialized RX2, Cond.code yX2_copy cX2_copy 3 none, Cond.fieldLink RX2 28 "HopCredits$Link" "delay" "I", Cond.fieldLink RX2 32 "HopCredits$Link" "pool" "I", Cond.fieldLink RX2 35 "HopCredits$Link" "every" "I", Cond.fieldLink RX2 38 "HopCredits$Link" "jammed" "I", Cond.fieldLink RX2 41 "HopCredits$Link" "latest" "I", Cond.fieldLink RX2 44 "HopCredits$Link" "sender" "I", Cond.fieldLink RX2 9 "HopCredits$Link" "cellAt" "[I", Cond.methodLink RX2 54 arraycopyName, Cond.fieldLink RX2 15 "HopCredits$Link" "updateAt" "[I", Cond.fieldLink RX2 18 "HopCredits$Link" "probesAt" "[I", Cond.fieldLink RX2 23 "HopCredits$Link" "lanes" "[LHopCredits$Lane;", Cond.methodLink RX2 60 yX1_copy]
def wsX6_bears_r3 : List Cond := [Cond.instanceMethod yX1_copy, Cond.selects RX1 yX1_copy yX1_copy, Cond.initialized RX1, Cond.code yX1_copy cX1_copy 2 none, Cond.fieldLink RX1 9 "HopCredits$Lane" "sent" "I", Cond.fieldLink RX1 15 "HopCredits$Lane" "gone" "I", Cond.fieldLink RX1 18 "HopCredits$Lane" "known" "I", Cond.fieldLink RX1 21 "HopCredits$Lane" "zone" "I", Cond.fieldLink RX1 24 "HopCredits$Lane" "waited" "I", Cond.fieldLink RX1 27 "HopCredits$Lane" "sinceUpdate" "I", Cond.fieldLink RX1 30 "HopCredits$Lane" "sinceAdapt" "I", Cond.methodLink RX3 91 yX0_copy, Cond.instanceMethod yX0_copy, Cond.selects RX0 yX0_copy yX0_copy, Cond.initialized RX0, Cond.code yX0_copy cX0_copy 2 none, Cond.fieldLink RX0 7 "HopCredits$Flow" "gap" "I", Cond.fieldLink RX0 13 "HopCredits$Flow" "start" "I", Cond.fieldLink RX0 16 "HopCredits$Flow" "takes" "I", Cond.fieldLink RX0 19 "HopCredits$Flow" "came" "I", Cond.fieldLink RX0 22 "HopCredits$Flow" "spilt" "I", Cond.fieldLink RX0 25 "HopCredits$Flow" "delivered" "I", Cond.fieldLink RX0 28 "HopCredits$Flow" "cameNow" "Z", Cond.fieldLink RX0 32 "HopCredits$Flow" "deliveredNow" "Z"]
def wsX6_bears_r4 : List Cond := [Cond.methodLink RX6 274 yX3_steps, Cond.instanceMethod yX3_steps, Cond.selects RX3 yX3_steps yX3_steps, Cond.code yX3_steps cX3_steps 3 none, Cond.methodLink RX3 100 yX3_step, Cond.instanceMethod yX3_step, Cond.selects RX3 yX3_step yX3_step, Cond.code yX3_step cX3_step 2 none, Cond.methodLink RX3 103 yX3_arriveOver, Cond.instanceMethod yX3_arriveOver, Cond.selects RX3 yX3_arriveOver yX3_arriveOver, Cond.code yX3_arriveOver cX3_arriveOver 9 none, Cond.fieldLink RX3 122 "HopCredits$Link" "cellAt" "[I", Cond.fieldLink RX3 125 "HopCredits$Link" "updateAt" "[I", Cond.fieldLink RX3 128 "HopCredits$Link" "lanes" "[LHopCredits$Lane;", Cond.fieldLink RX3 137 "HopCredits$Link" "probesAt" "[I", Cond.methodLink RX3 132 yX1_hear, Cond.instanceMethod yX1_hear, Cond.selects RX1 yX1_hear yX1_hear, Cond.code yX1_hear cX1_hear 2 none, Cond.static yX6_reaches, Cond.code yX6_reaches cX6_reaches 2 (some .boolean), Cond.methodLink RX3 140 yX3_sendUpdate, Cond.instanceMethod yX3_sendUpdate]
def wsX6_bears_r5 : List Cond := [Cond.selects RX3 yX3_sendUpdate yX3_sendUpdate, Cond.code yX3_sendUpdate cX3_sendUpdate 3 none, Cond.fieldLink RX3 207 "HopCredits$Link" "jammed" "I", Cond.fieldLink RX3 183 "HopCredits$Link" "delay" "I", Cond.fieldLink RX3 198 "HopCredits$Lane" "gone" "I", Cond.methodLink RX3 144 yX2_clearSlot, Cond.instanceMethod yX2_clearSlot, Cond.selects RX2 yX2_clearSlot yX2_clearSlot, Cond.code yX2_clearSlot cX2_clearSlot 3 none, Cond.methodLink RX3 107 yX3_come, Cond.instanceMethod yX3_come, Cond.selects RX3 yX3_come yX3_come, Cond.code yX3_come cX3_come 3 none, Cond.fieldLink RX3 147 "HopCredits$Flow" "cameNow" "Z", Cond.fieldLink RX3 155 "HopCredits$Flow" "came" "I", Cond.fieldLink RX3 158 "HopCredits$Flow" "spilt" "I", Cond.methodLink RX3 151 yX0_comesIn, Cond.instanceMethod yX0_comesIn, Cond.selects RX0 yX0_comesIn yX0_comesIn, Cond.code yX0_comesIn cX0_comesIn 2 (some .boolean), Cond.methodLink RX3 110 yX3_take, Cond.instanceMethod yX3_take, Cond.selects RX3 yX3_take yX3_take, Cond.code yX3_take cX3_take 4 none]
def wsX6_bears_r6 : List Cond := [Cond.fieldLink RX3 164 "HopCredits$Flow" "deliveredNow" "Z", Cond.fieldLink RX3 167 "HopCredits$Flow" "delivered" "I", Cond.methodLink RX3 161 yX0_takesIn, Cond.instanceMethod yX0_takesIn, Cond.selects RX0 yX0_takesIn yX0_takesIn, Cond.code yX0_takesIn cX0_takesIn 2 (some .boolean), Cond.methodLink RX3 170 yX3_goneFrom, Cond.instanceMethod yX3_goneFrom, Cond.selects RX3 yX3_goneFrom yX3_goneFrom, Cond.code yX3_goneFrom cX3_goneFrom 5 none, Cond.fieldLink RX3 201 "HopCredits$Lane" "sinceUpdate" "I", Cond.fieldLink RX3 204 "HopCredits$Link" "every" "I", Cond.methodLink RX3 113 yX3_sendOver, Cond.instanceMethod yX3_sendOver, Cond.selects RX3 yX3_sendOver yX3_sendOver, Cond.code yX3_sendOver cX3_sendOver 5 none, Cond.fieldLink RX3 177 "HopCredits$Link" "sender" "I", Cond.fieldLink RX3 180 "HopCredits$Link" "latest" "I", Cond.fieldLink RX3 186 "HopCredits$Lane" "sent" "I", Cond.fieldLink RX3 189 "HopCredits$Lane" "sinceAdapt" "I", Cond.methodLink RX3 174 yX3_nextSender, Cond.instanceMethod yX3_nextSender, Cond.selects RX3 yX3_nextSender yX3_nextSender, Cond.code yX3_nextSender cX3_nextSender 6 (some .int)]
def wsX6_bears_r7 : List Cond := [Cond.fieldLink RX3 195 "HopCredits$Lane" "zone" "I", Cond.methodLink RX3 192 yX1_out, Cond.instanceMethod yX1_out, Cond.selects RX1 yX1_out yX1_out, Cond.code yX1_out cX1_out 1 (some .int), Cond.methodLink RX3 116 yX3_waitAt, Cond.instanceMethod yX3_waitAt, Cond.selects RX3 yX3_waitAt yX3_waitAt, Cond.code yX3_waitAt cX3_waitAt 4 none, Cond.fieldLink RX3 210 "HopCredits$Lane" "waited" "I", Cond.methodLink RX3 213 yX3_lacksCredit, Cond.instanceMethod yX3_lacksCredit, Cond.selects RX3 yX3_lacksCredit yX3_lacksCredit, Cond.code yX3_lacksCredit cX3_lacksCredit 3 (some .boolean), Cond.methodLink RX3 217 yX3_sendProbe, Cond.instanceMethod yX3_sendProbe, Cond.selects RX3 yX3_sendProbe yX3_sendProbe, Cond.code yX3_sendProbe cX3_sendProbe 3 none, Cond.methodLink RX3 119 yX3_adapt, Cond.instanceMethod yX3_adapt, Cond.selects RX3 yX3_adapt yX3_adapt, Cond.code yX3_adapt cX3_adapt 5 none, Cond.methodLink RX3 224 Lib.Math.min.name, Cond.static Lib.Math.min.name]
def wsX6_bears_r8 : List Cond := [Cond.initialized "java/lang/Math", Cond.code Lib.Math.min.name Lib.Math.min.code 2 (some .int), Cond.methodLink RX3 64 Lib.Math.max.name, Cond.static Lib.Math.max.name, Cond.code Lib.Math.max.name Lib.Math.max.code 2 (some .int), Cond.methodLink RX3 220 yX3_aimOf, Cond.instanceMethod yX3_aimOf, Cond.selects RX3 yX3_aimOf yX3_aimOf, Cond.code yX3_aimOf cX3_aimOf 5 (some .int), Cond.fieldLink RX3 230 "HopCredits$Link" "pool" "I", Cond.methodLink RX3 227 yX2_roomFor, Cond.instanceMethod yX2_roomFor, Cond.selects RX2 yX2_roomFor yX2_roomFor, Cond.code yX2_roomFor cX2_roomFor 5 (some .int), Cond.fieldLink RX2 64 "HopCredits$Lane" "zone" "I", Cond.methodLink RX2 71 Lib.Math.max.name, Cond.methodLink RX2 67 yX1_out, Cond.methodLink RX6 277 yX6_deliveredApart, Cond.instanceMethod yX6_deliveredApart, Cond.selects RX6 yX6_deliveredApart yX6_deliveredApart, Cond.code yX6_deliveredApart cX6_deliveredApart 1 (some .int), Cond.methodLink RX6 283 yX3_deliveredOfAll, Cond.instanceMethod yX3_deliveredOfAll, Cond.selects RX3 yX3_deliveredOfAll yX3_deliveredOfAll]
def wsX6_bears_r9 : List Cond := [Cond.code yX3_deliveredOfAll cX3_deliveredOfAll 3 (some .int), Cond.methodLink RX6 304 yX6_deliveredJammed, Cond.instanceMethod yX6_deliveredJammed, Cond.selects RX6 yX6_deliveredJammed yX6_deliveredJammed, Cond.code yX6_deliveredJammed cX6_deliveredJammed 4 (some .int), Cond.fieldLink RX6 78 "HopCredits$Net" "hops" "I", Cond.fieldLink RX6 104 "HopCredits$Net" "links" "[LHopCredits$Link;", Cond.fieldLink RX6 119 "HopCredits$Link" "jammed" "I"]
def wsX6_bears : List Cond := .code yX6_bears cX6_bears 4 (some .int) :: ((wsX6_bears_r1 ++ (wsX6_bears_r2 ++ (wsX6_bears_r3 ++ (wsX6_bears_r4 ++ (wsX6_bears_r5 ++ (wsX6_bears_r6 ++ (wsX6_bears_r7 ++ (wsX6_bears_r8 ++ wsX6_bears_r9)))))))) ++ wsX60 ++ wsX30 ++ wsX20 ++ wsX10 ++ wsX00)
def wsX6_waits_r1 : List Cond := [Cond.fieldLink RX6 39 "HopCredits" "tally" "[I", Cond.methodLink RX6 167 yX6_isLane, Cond.instanceMethod yX6_isLane, Cond.selects RX6 yX6_isLane yX6_isLane, Cond.initialized RX6, Cond.code yX6_isLane cX6_isLane 3 (some .boolean), Cond.methodLink RX6 93 yX6_isHop, Cond.instanceMethod yX6_isHop, Cond.selects RX6 yX6_isHop yX6_isHop, Cond.code yX6_isHop cX6_isHop 2 (some .boolean), Cond.fieldLink RX6 70 "HopCredits" "laid" "Z", Cond.fieldLink RX6 26 "HopCredits" "now" "LHopCredits$Net;", Cond.fieldLink RX6 78 "HopCredits$Net" "hops" "I", Cond.methodLink RX6 135 yX6_isCircuit, Cond.instanceMethod yX6_isCircuit, Cond.selects RX6 yX6_isCircuit yX6_isCircuit, Cond.code yX6_isCircuit cX6_isCircuit 2 (some .boolean), Cond.fieldLink RX6 74 "HopCredits$Net" "circuits" "I", Cond.methodLink RX6 55 yX6_outside, Cond.static yX6_outside, Cond.code yX6_outside cX6_outside 3 (some .boolean), Cond.methodLink RX6 324 yX6_tallyWaits, Cond.instanceMethod yX6_tallyWaits, Cond.selects RX6 yX6_tallyWaits yX6_tallyWaits]
def wsX6_waits_r2 : List Cond := [Cond.code yX6_tallyWaits cX6_tallyWaits 5 none, Cond.fieldLink RX6 30 "HopCredits" "apart" "LHopCredits$Net;", Cond.methodLink RX6 292 yX6_clearTally, Cond.instanceMethod yX6_clearTally, Cond.selects RX6 yX6_clearTally yX6_clearTally, Cond.code yX6_clearTally cX6_clearTally 2 none, Cond.methodLink RX6 270 yX3_copy, Cond.instanceMethod yX3_copy, Cond.selects RX3 yX3_copy yX3_copy, Cond.initialized RX3, Cond.code yX3_copy cX3_copy 3 none, Cond.fieldLink RX3 53 "HopCredits$Net" "hops" "I", Cond.fieldLink RX3 62 "HopCredits$Net" "circuits" "I", Cond.fieldLink RX3 59 "HopCredits$Net" "reserve" "I", Cond.fieldLink RX3 46 "HopCredits$Net" "adapts" "I", Cond.fieldLink RX3 50 "HopCredits$Net" "probes" "I", Cond.fieldLink RX3 78 "HopCredits$Net" "tick" "I", Cond.fieldLink RX3 81 "HopCredits$Net" "lost" "I", Cond.fieldLink RX3 84 "HopCredits$Net" "probesSent" "I", Cond.fieldLink RX3 11 "HopCredits$Net" "links" "[LHopCredits$Link;", Cond.fieldLink RX3 19 "HopCredits$Net" "flows" "[LHopCredits$Flow;", Cond.fieldLink RX3 23 "HopCredits$Net" "buffers" "[I", Cond.methodLink RX3 94 arraycopyName, Cond.native arraycopyName]
def wsX6_waits_r3 : List Cond := [Cond.static arraycopyName, Cond.initialized "java/lang/System", Cond.methodLink RX3 87 yX2_copy, Cond.instanceMethod yX2_copy, Cond.selects RX2 yX2_copy yX2_copy, Cond.initialized RX2, Cond.code yX2_copy cX2_copy 3 none, Cond.fieldLink RX2 28 "HopCredits$Link" "delay" "I", Cond.fieldLink RX2 32 "HopCredits$Link" "pool" "I", Cond.fieldLink RX2 35 "HopCredits$Link" "every" "I", Cond.fieldLink RX2 38 "HopCredits$Link" "jammed" "I", Cond.fieldLink RX2 41 "HopCredits$Link" "latest" "I", Cond.fieldLink RX2 44 "HopCredits$Link" "sender" "I", Cond.fieldLink RX2 9 "HopCredits$Link" "cellAt" "[I", Cond.methodLink RX2 54 arraycopyName, Cond.fieldLink RX2 15 "HopCredits$Link" "updateAt" "[I", Cond.fieldLink RX2 18 "HopCredits$Link" "probesAt" "[I", Cond.fieldLink RX2 23 "HopCredits$Link" "lanes" "[LHopCredits$Lane;", Cond.methodLink RX2 60 yX1_copy, Cond.instanceMethod yX1_copy, Cond.selects RX1 yX1_copy yX1_copy, Cond.initialized RX1, Cond.code yX1_copy cX1_copy 2 none, Cond.fieldLink RX1 9 "HopCredits$Lane" "sent" "I"]
def wsX6_waits_r4 : List Cond := [Cond.fieldLink RX1 15 "HopCredits$Lane" "gone" "I", Cond.fieldLink RX1 18 "HopCredits$Lane" "known" "I", Cond.fieldLink RX1 21 "HopCredits$Lane" "zone" "I", Cond.fieldLink RX1 24 "HopCredits$Lane" "waited" "I", Cond.fieldLink RX1 27 "HopCredits$Lane" "sinceUpdate" "I", Cond.fieldLink RX1 30 "HopCredits$Lane" "sinceAdapt" "I", Cond.methodLink RX3 91 yX0_copy, Cond.instanceMethod yX0_copy, Cond.selects RX0 yX0_copy yX0_copy, Cond.initialized RX0, Cond.code yX0_copy cX0_copy 2 none, Cond.fieldLink RX0 7 "HopCredits$Flow" "gap" "I", Cond.fieldLink RX0 13 "HopCredits$Flow" "start" "I", Cond.fieldLink RX0 16 "HopCredits$Flow" "takes" "I", Cond.fieldLink RX0 19 "HopCredits$Flow" "came" "I", Cond.fieldLink RX0 22 "HopCredits$Flow" "spilt" "I", Cond.fieldLink RX0 25 "HopCredits$Flow" "delivered" "I", Cond.fieldLink RX0 28 "HopCredits$Flow" "cameNow" "Z", Cond.fieldLink RX0 32 "HopCredits$Flow" "deliveredNow" "Z", Cond.methodLink RX6 233 yX3_step, Cond.instanceMethod yX3_step, Cond.selects RX3 yX3_step yX3_step, Cond.code yX3_step cX3_step 2 none, Cond.methodLink RX3 103 yX3_arriveOver]
def wsX6_waits_r5 : List Cond := [Cond.instanceMethod yX3_arriveOver, Cond.selects RX3 yX3_arriveOver yX3_arriveOver, Cond.code yX3_arriveOver cX3_arriveOver 9 none, Cond.fieldLink RX3 122 "HopCredits$Link" "cellAt" "[I", Cond.fieldLink RX3 125 "HopCredits$Link" "updateAt" "[I", Cond.fieldLink RX3 128 "HopCredits$Link" "lanes" "[LHopCredits$Lane;", Cond.fieldLink RX3 137 "HopCredits$Link" "probesAt" "[I", Cond.methodLink RX3 132 yX1_hear, Cond.instanceMethod yX1_hear, Cond.selects RX1 yX1_hear yX1_hear, Cond.code yX1_hear cX1_hear 2 none, Cond.static yX6_reaches, Cond.code yX6_reaches cX6_reaches 2 (some .boolean), Cond.methodLink RX3 140 yX3_sendUpdate, Cond.instanceMethod yX3_sendUpdate, Cond.selects RX3 yX3_sendUpdate yX3_sendUpdate, Cond.code yX3_sendUpdate cX3_sendUpdate 3 none, Cond.fieldLink RX3 207 "HopCredits$Link" "jammed" "I", Cond.fieldLink RX3 183 "HopCredits$Link" "delay" "I", Cond.fieldLink RX3 198 "HopCredits$Lane" "gone" "I", Cond.methodLink RX3 144 yX2_clearSlot, Cond.instanceMethod yX2_clearSlot, Cond.selects RX2 yX2_clearSlot yX2_clearSlot, Cond.code yX2_clearSlot cX2_clearSlot 3 none]
def wsX6_waits_r6 : List Cond := [Cond.methodLink RX3 107 yX3_come, Cond.instanceMethod yX3_come, Cond.selects RX3 yX3_come yX3_come, Cond.code yX3_come cX3_come 3 none, Cond.fieldLink RX3 147 "HopCredits$Flow" "cameNow" "Z", Cond.fieldLink RX3 155 "HopCredits$Flow" "came" "I", Cond.fieldLink RX3 158 "HopCredits$Flow" "spilt" "I", Cond.methodLink RX3 151 yX0_comesIn, Cond.instanceMethod yX0_comesIn, Cond.selects RX0 yX0_comesIn yX0_comesIn, Cond.code yX0_comesIn cX0_comesIn 2 (some .boolean), Cond.methodLink RX3 110 yX3_take, Cond.instanceMethod yX3_take, Cond.selects RX3 yX3_take yX3_take, Cond.code yX3_take cX3_take 4 none, Cond.fieldLink RX3 164 "HopCredits$Flow" "deliveredNow" "Z", Cond.fieldLink RX3 167 "HopCredits$Flow" "delivered" "I", Cond.methodLink RX3 161 yX0_takesIn, Cond.instanceMethod yX0_takesIn, Cond.selects RX0 yX0_takesIn yX0_takesIn, Cond.code yX0_takesIn cX0_takesIn 2 (some .boolean), Cond.methodLink RX3 170 yX3_goneFrom, Cond.instanceMethod yX3_goneFrom, Cond.selects RX3 yX3_goneFrom yX3_goneFrom]
def wsX6_waits_r7 : List Cond := [Cond.code yX3_goneFrom cX3_goneFrom 5 none, Cond.fieldLink RX3 201 "HopCredits$Lane" "sinceUpdate" "I", Cond.fieldLink RX3 204 "HopCredits$Link" "every" "I", Cond.methodLink RX3 113 yX3_sendOver, Cond.instanceMethod yX3_sendOver, Cond.selects RX3 yX3_sendOver yX3_sendOver, Cond.code yX3_sendOver cX3_sendOver 5 none, Cond.fieldLink RX3 177 "HopCredits$Link" "sender" "I", Cond.fieldLink RX3 180 "HopCredits$Link" "latest" "I", Cond.fieldLink RX3 186 "HopCredits$Lane" "sent" "I", Cond.fieldLink RX3 189 "HopCredits$Lane" "sinceAdapt" "I", Cond.methodLink RX3 174 yX3_nextSender, Cond.instanceMethod yX3_nextSender, Cond.selects RX3 yX3_nextSender yX3_nextSender, Cond.code yX3_nextSender cX3_nextSender 6 (some .int), Cond.fieldLink RX3 195 "HopCredits$Lane" "zone" "I", Cond.methodLink RX3 192 yX1_out, Cond.instanceMethod yX1_out, Cond.selects RX1 yX1_out yX1_out, Cond.code yX1_out cX1_out 1 (some .int), Cond.methodLink RX3 116 yX3_waitAt, Cond.instanceMethod yX3_waitAt, Cond.selects RX3 yX3_waitAt yX3_waitAt, Cond.code yX3_waitAt cX3_waitAt 4 none]
def wsX6_waits_r8 : List Cond := [Cond.fieldLink RX3 210 "HopCredits$Lane" "waited" "I", Cond.methodLink RX3 213 yX3_lacksCredit, Cond.instanceMethod yX3_lacksCredit, Cond.selects RX3 yX3_lacksCredit yX3_lacksCredit, Cond.code yX3_lacksCredit cX3_lacksCredit 3 (some .boolean), Cond.methodLink RX3 217 yX3_sendProbe, Cond.instanceMethod yX3_sendProbe, Cond.selects RX3 yX3_sendProbe yX3_sendProbe, Cond.code yX3_sendProbe cX3_sendProbe 3 none, Cond.methodLink RX3 119 yX3_adapt, Cond.instanceMethod yX3_adapt, Cond.selects RX3 yX3_adapt yX3_adapt, Cond.code yX3_adapt cX3_adapt 5 none, Cond.methodLink RX3 224 Lib.Math.min.name, Cond.static Lib.Math.min.name, Cond.initialized "java/lang/Math", Cond.code Lib.Math.min.name Lib.Math.min.code 2 (some .int), Cond.methodLink RX3 64 Lib.Math.max.name, Cond.static Lib.Math.max.name, Cond.code Lib.Math.max.name Lib.Math.max.code 2 (some .int), Cond.methodLink RX3 220 yX3_aimOf, Cond.instanceMethod yX3_aimOf, Cond.selects RX3 yX3_aimOf yX3_aimOf, Cond.code yX3_aimOf cX3_aimOf 5 (some .int)]
def wsX6_waits_r9 : List Cond := [Cond.fieldLink RX3 230 "HopCredits$Link" "pool" "I", Cond.methodLink RX3 227 yX2_roomFor, Cond.instanceMethod yX2_roomFor, Cond.selects RX2 yX2_roomFor yX2_roomFor, Cond.code yX2_roomFor cX2_roomFor 5 (some .int), Cond.fieldLink RX2 64 "HopCredits$Lane" "zone" "I", Cond.methodLink RX2 71 Lib.Math.max.name, Cond.methodLink RX2 67 yX1_out, Cond.methodLink RX6 328 yX3_lacksCredit]
def wsX6_waits : List Cond := .code yX6_waits cX6_waits 4 (some .int) :: ((wsX6_waits_r1 ++ (wsX6_waits_r2 ++ (wsX6_waits_r3 ++ (wsX6_waits_r4 ++ (wsX6_waits_r5 ++ (wsX6_waits_r6 ++ (wsX6_waits_r7 ++ (wsX6_waits_r8 ++ wsX6_waits_r9)))))))) ++ wsX60 ++ wsX30 ++ wsX20 ++ wsX10 ++ wsX00)
def wsX6_worst_r1 : List Cond := [Cond.fieldLink RX6 26 "HopCredits" "now" "LHopCredits$Net;", Cond.fieldLink RX6 78 "HopCredits$Net" "hops" "I", Cond.fieldLink RX6 39 "HopCredits" "tally" "[I", Cond.methodLink RX6 135 yX6_isCircuit, Cond.instanceMethod yX6_isCircuit, Cond.selects RX6 yX6_isCircuit yX6_isCircuit, Cond.initialized RX6, Cond.code yX6_isCircuit cX6_isCircuit 2 (some .boolean), Cond.fieldLink RX6 70 "HopCredits" "laid" "Z", Cond.fieldLink RX6 74 "HopCredits$Net" "circuits" "I", Cond.methodLink RX6 55 yX6_outside, Cond.static yX6_outside, Cond.code yX6_outside cX6_outside 3 (some .boolean), Cond.methodLink RX6 324 yX6_tallyWaits, Cond.instanceMethod yX6_tallyWaits, Cond.selects RX6 yX6_tallyWaits yX6_tallyWaits, Cond.code yX6_tallyWaits cX6_tallyWaits 5 none, Cond.fieldLink RX6 30 "HopCredits" "apart" "LHopCredits$Net;", Cond.methodLink RX6 292 yX6_clearTally, Cond.instanceMethod yX6_clearTally, Cond.selects RX6 yX6_clearTally yX6_clearTally, Cond.code yX6_clearTally cX6_clearTally 2 none, Cond.methodLink RX6 270 yX3_copy, Cond.instanceMethod yX3_copy]
def wsX6_worst_r2 : List Cond := [Cond.selects RX3 yX3_copy yX3_copy, Cond.initialized RX3, Cond.code yX3_copy cX3_copy 3 none, Cond.fieldLink RX3 53 "HopCredits$Net" "hops" "I", Cond.fieldLink RX3 62 "HopCredits$Net" "circuits" "I", Cond.fieldLink RX3 59 "HopCredits$Net" "reserve" "I", Cond.fieldLink RX3 46 "HopCredits$Net" "adapts" "I", Cond.fieldLink RX3 50 "HopCredits$Net" "probes" "I", Cond.fieldLink RX3 78 "HopCredits$Net" "tick" "I", Cond.fieldLink RX3 81 "HopCredits$Net" "lost" "I", Cond.fieldLink RX3 84 "HopCredits$Net" "probesSent" "I", Cond.fieldLink RX3 11 "HopCredits$Net" "links" "[LHopCredits$Link;", Cond.fieldLink RX3 19 "HopCredits$Net" "flows" "[LHopCredits$Flow;", Cond.fieldLink RX3 23 "HopCredits$Net" "buffers" "[I", Cond.methodLink RX3 94 arraycopyName, Cond.native arraycopyName, Cond.static arraycopyName, Cond.initialized "java/lang/System", Cond.methodLink RX3 87 yX2_copy, Cond.instanceMethod yX2_copy, Cond.selects RX2 yX2_copy yX2_copy, Cond.initialized RX2, Cond.code yX2_copy cX2_copy 3 none, Cond.fieldLink RX2 28 "HopCredits$Link" "delay" "I"]
def wsX6_worst_r3 : List Cond := [Cond.fieldLink RX2 32 "HopCredits$Link" "pool" "I", Cond.fieldLink RX2 35 "HopCredits$Link" "every" "I", Cond.fieldLink RX2 38 "HopCredits$Link" "jammed" "I", Cond.fieldLink RX2 41 "HopCredits$Link" "latest" "I", Cond.fieldLink RX2 44 "HopCredits$Link" "sender" "I", Cond.fieldLink RX2 9 "HopCredits$Link" "cellAt" "[I", Cond.methodLink RX2 54 arraycopyName, Cond.fieldLink RX2 15 "HopCredits$Link" "updateAt" "[I", Cond.fieldLink RX2 18 "HopCredits$Link" "probesAt" "[I", Cond.fieldLink RX2 23 "HopCredits$Link" "lanes" "[LHopCredits$Lane;", Cond.methodLink RX2 60 yX1_copy, Cond.instanceMethod yX1_copy, Cond.selects RX1 yX1_copy yX1_copy, Cond.initialized RX1, Cond.code yX1_copy cX1_copy 2 none, Cond.fieldLink RX1 9 "HopCredits$Lane" "sent" "I", Cond.fieldLink RX1 15 "HopCredits$Lane" "gone" "I", Cond.fieldLink RX1 18 "HopCredits$Lane" "known" "I", Cond.fieldLink RX1 21 "HopCredits$Lane" "zone" "I", Cond.fieldLink RX1 24 "HopCredits$Lane" "waited" "I", Cond.fieldLink RX1 27 "HopCredits$Lane" "sinceUpdate" "I", Cond.fieldLink RX1 30 "HopCredits$Lane" "sinceAdapt" "I", Cond.methodLink RX3 91 yX0_copy, Cond.instanceMethod yX0_copy]
def wsX6_worst_r4 : List Cond := [Cond.selects RX0 yX0_copy yX0_copy, Cond.initialized RX0, Cond.code yX0_copy cX0_copy 2 none, Cond.fieldLink RX0 7 "HopCredits$Flow" "gap" "I", Cond.fieldLink RX0 13 "HopCredits$Flow" "start" "I", Cond.fieldLink RX0 16 "HopCredits$Flow" "takes" "I", Cond.fieldLink RX0 19 "HopCredits$Flow" "came" "I", Cond.fieldLink RX0 22 "HopCredits$Flow" "spilt" "I", Cond.fieldLink RX0 25 "HopCredits$Flow" "delivered" "I", Cond.fieldLink RX0 28 "HopCredits$Flow" "cameNow" "Z", Cond.fieldLink RX0 32 "HopCredits$Flow" "deliveredNow" "Z", Cond.methodLink RX6 233 yX3_step, Cond.instanceMethod yX3_step, Cond.selects RX3 yX3_step yX3_step, Cond.code yX3_step cX3_step 2 none, Cond.methodLink RX3 103 yX3_arriveOver, Cond.instanceMethod yX3_arriveOver, Cond.selects RX3 yX3_arriveOver yX3_arriveOver, Cond.code yX3_arriveOver cX3_arriveOver 9 none, Cond.fieldLink RX3 122 "HopCredits$Link" "cellAt" "[I", Cond.fieldLink RX3 125 "HopCredits$Link" "updateAt" "[I", Cond.fieldLink RX3 128 "HopCredits$Link" "lanes" "[LHopCredits$Lane;", Cond.fieldLink RX3 137 "HopCredits$Link" "probesAt" "[I", Cond.methodLink RX3 132 yX1_hear]
def wsX6_worst_r5 : List Cond := [Cond.instanceMethod yX1_hear, Cond.selects RX1 yX1_hear yX1_hear, Cond.code yX1_hear cX1_hear 2 none, Cond.static yX6_reaches, Cond.code yX6_reaches cX6_reaches 2 (some .boolean), Cond.methodLink RX3 140 yX3_sendUpdate, Cond.instanceMethod yX3_sendUpdate, Cond.selects RX3 yX3_sendUpdate yX3_sendUpdate, Cond.code yX3_sendUpdate cX3_sendUpdate 3 none, Cond.fieldLink RX3 207 "HopCredits$Link" "jammed" "I", Cond.fieldLink RX3 183 "HopCredits$Link" "delay" "I", Cond.fieldLink RX3 198 "HopCredits$Lane" "gone" "I", Cond.methodLink RX3 144 yX2_clearSlot, Cond.instanceMethod yX2_clearSlot, Cond.selects RX2 yX2_clearSlot yX2_clearSlot, Cond.code yX2_clearSlot cX2_clearSlot 3 none, Cond.methodLink RX3 107 yX3_come, Cond.instanceMethod yX3_come, Cond.selects RX3 yX3_come yX3_come, Cond.code yX3_come cX3_come 3 none, Cond.fieldLink RX3 147 "HopCredits$Flow" "cameNow" "Z", Cond.fieldLink RX3 155 "HopCredits$Flow" "came" "I", Cond.fieldLink RX3 158 "HopCredits$Flow" "spilt" "I", Cond.methodLink RX3 151 yX0_comesIn]
def wsX6_worst_r6 : List Cond := [Cond.instanceMethod yX0_comesIn, Cond.selects RX0 yX0_comesIn yX0_comesIn, Cond.code yX0_comesIn cX0_comesIn 2 (some .boolean), Cond.methodLink RX3 110 yX3_take, Cond.instanceMethod yX3_take, Cond.selects RX3 yX3_take yX3_take, Cond.code yX3_take cX3_take 4 none, Cond.fieldLink RX3 164 "HopCredits$Flow" "deliveredNow" "Z", Cond.fieldLink RX3 167 "HopCredits$Flow" "delivered" "I", Cond.methodLink RX3 161 yX0_takesIn, Cond.instanceMethod yX0_takesIn, Cond.selects RX0 yX0_takesIn yX0_takesIn, Cond.code yX0_takesIn cX0_takesIn 2 (some .boolean), Cond.methodLink RX3 170 yX3_goneFrom, Cond.instanceMethod yX3_goneFrom, Cond.selects RX3 yX3_goneFrom yX3_goneFrom, Cond.code yX3_goneFrom cX3_goneFrom 5 none, Cond.fieldLink RX3 201 "HopCredits$Lane" "sinceUpdate" "I", Cond.fieldLink RX3 204 "HopCredits$Link" "every" "I", Cond.methodLink RX3 113 yX3_sendOver, Cond.instanceMethod yX3_sendOver, Cond.selects RX3 yX3_sendOver yX3_sendOver, Cond.code yX3_sendOver cX3_sendOver 5 none, Cond.fieldLink RX3 177 "HopCredits$Link" "sender" "I"]
def wsX6_worst_r7 : List Cond := [Cond.fieldLink RX3 180 "HopCredits$Link" "latest" "I", Cond.fieldLink RX3 186 "HopCredits$Lane" "sent" "I", Cond.fieldLink RX3 189 "HopCredits$Lane" "sinceAdapt" "I", Cond.methodLink RX3 174 yX3_nextSender, Cond.instanceMethod yX3_nextSender, Cond.selects RX3 yX3_nextSender yX3_nextSender, Cond.code yX3_nextSender cX3_nextSender 6 (some .int), Cond.fieldLink RX3 195 "HopCredits$Lane" "zone" "I", Cond.methodLink RX3 192 yX1_out, Cond.instanceMethod yX1_out, Cond.selects RX1 yX1_out yX1_out, Cond.code yX1_out cX1_out 1 (some .int), Cond.methodLink RX3 116 yX3_waitAt, Cond.instanceMethod yX3_waitAt, Cond.selects RX3 yX3_waitAt yX3_waitAt, Cond.code yX3_waitAt cX3_waitAt 4 none, Cond.fieldLink RX3 210 "HopCredits$Lane" "waited" "I", Cond.methodLink RX3 213 yX3_lacksCredit, Cond.instanceMethod yX3_lacksCredit, Cond.selects RX3 yX3_lacksCredit yX3_lacksCredit, Cond.code yX3_lacksCredit cX3_lacksCredit 3 (some .boolean), Cond.methodLink RX3 217 yX3_sendProbe, Cond.instanceMethod yX3_sendProbe, Cond.selects RX3 yX3_sendProbe yX3_sendProbe]
def wsX6_worst_r8 : List Cond := [Cond.code yX3_sendProbe cX3_sendProbe 3 none, Cond.methodLink RX3 119 yX3_adapt, Cond.instanceMethod yX3_adapt, Cond.selects RX3 yX3_adapt yX3_adapt, Cond.code yX3_adapt cX3_adapt 5 none, Cond.methodLink RX3 224 Lib.Math.min.name, Cond.static Lib.Math.min.name, Cond.initialized "java/lang/Math", Cond.code Lib.Math.min.name Lib.Math.min.code 2 (some .int), Cond.methodLink RX3 64 Lib.Math.max.name, Cond.static Lib.Math.max.name, Cond.code Lib.Math.max.name Lib.Math.max.code 2 (some .int), Cond.methodLink RX3 220 yX3_aimOf, Cond.instanceMethod yX3_aimOf, Cond.selects RX3 yX3_aimOf yX3_aimOf, Cond.code yX3_aimOf cX3_aimOf 5 (some .int), Cond.fieldLink RX3 230 "HopCredits$Link" "pool" "I", Cond.methodLink RX3 227 yX2_roomFor, Cond.instanceMethod yX2_roomFor, Cond.selects RX2 yX2_roomFor yX2_roomFor, Cond.code yX2_roomFor cX2_roomFor 5 (some .int), Cond.fieldLink RX2 64 "HopCredits$Lane" "zone" "I", Cond.methodLink RX2 71 Lib.Math.max.name, Cond.methodLink RX2 67 yX1_out]
def wsX6_worst_r9 : List Cond := [Cond.methodLink RX6 328 yX3_lacksCredit]
def wsX6_worst : List Cond := .code yX6_worst cX6_worst 6 (some .int) :: ((wsX6_worst_r1 ++ (wsX6_worst_r2 ++ (wsX6_worst_r3 ++ (wsX6_worst_r4 ++ (wsX6_worst_r5 ++ (wsX6_worst_r6 ++ (wsX6_worst_r7 ++ (wsX6_worst_r8 ++ wsX6_worst_r9)))))))) ++ wsX60 ++ wsX30 ++ wsX20 ++ wsX10 ++ wsX00)
def wsX6_busiest_r1 : List Cond := [Cond.fieldLink RX6 70 "HopCredits" "laid" "Z", Cond.fieldLink RX6 26 "HopCredits" "now" "LHopCredits$Net;", Cond.fieldLink RX6 78 "HopCredits$Net" "hops" "I", Cond.fieldLink RX6 39 "HopCredits" "tally" "[I", Cond.methodLink RX6 55 yX6_outside, Cond.static yX6_outside, Cond.initialized RX6, Cond.code yX6_outside cX6_outside 3 (some .boolean), Cond.methodLink RX6 289 yX6_tallyIdle, Cond.instanceMethod yX6_tallyIdle, Cond.selects RX6 yX6_tallyIdle yX6_tallyIdle, Cond.code yX6_tallyIdle cX6_tallyIdle 4 none, Cond.fieldLink RX6 30 "HopCredits" "apart" "LHopCredits$Net;", Cond.fieldLink RX6 104 "HopCredits$Net" "links" "[LHopCredits$Link;", Cond.fieldLink RX6 286 "HopCredits$Link" "sender" "I", Cond.methodLink RX6 292 yX6_clearTally, Cond.instanceMethod yX6_clearTally, Cond.selects RX6 yX6_clearTally yX6_clearTally, Cond.code yX6_clearTally cX6_clearTally 2 none, Cond.methodLink RX6 270 yX3_copy, Cond.instanceMethod yX3_copy, Cond.selects RX3 yX3_copy yX3_copy, Cond.initialized RX3, Cond.code yX3_copy cX3_copy 3 none]
def wsX6_busiest_r2 : List Cond := [Cond.fieldLink RX3 53 "HopCredits$Net" "hops" "I", Cond.fieldLink RX3 62 "HopCredits$Net" "circuits" "I", Cond.fieldLink RX3 59 "HopCredits$Net" "reserve" "I", Cond.fieldLink RX3 46 "HopCredits$Net" "adapts" "I", Cond.fieldLink RX3 50 "HopCredits$Net" "probes" "I", Cond.fieldLink RX3 78 "HopCredits$Net" "tick" "I", Cond.fieldLink RX3 81 "HopCredits$Net" "lost" "I", Cond.fieldLink RX3 84 "HopCredits$Net" "probesSent" "I", Cond.fieldLink RX3 11 "HopCredits$Net" "links" "[LHopCredits$Link;", Cond.fieldLink RX3 19 "HopCredits$Net" "flows" "[LHopCredits$Flow;", Cond.fieldLink RX3 23 "HopCredits$Net" "buffers" "[I", Cond.methodLink RX3 94 arraycopyName, Cond.native arraycopyName, Cond.static arraycopyName, Cond.initialized "java/lang/System", Cond.methodLink RX3 87 yX2_copy, Cond.instanceMethod yX2_copy, Cond.selects RX2 yX2_copy yX2_copy, Cond.initialized RX2, Cond.code yX2_copy cX2_copy 3 none, Cond.fieldLink RX2 28 "HopCredits$Link" "delay" "I", Cond.fieldLink RX2 32 "HopCredits$Link" "pool" "I", Cond.fieldLink RX2 35 "HopCredits$Link" "every" "I", Cond.fieldLink RX2 38 "HopCredits$Link" "jammed" "I"]
def wsX6_busiest_r3 : List Cond := [Cond.fieldLink RX2 41 "HopCredits$Link" "latest" "I", Cond.fieldLink RX2 44 "HopCredits$Link" "sender" "I", Cond.fieldLink RX2 9 "HopCredits$Link" "cellAt" "[I", Cond.methodLink RX2 54 arraycopyName, Cond.fieldLink RX2 15 "HopCredits$Link" "updateAt" "[I", Cond.fieldLink RX2 18 "HopCredits$Link" "probesAt" "[I", Cond.fieldLink RX2 23 "HopCredits$Link" "lanes" "[LHopCredits$Lane;", Cond.methodLink RX2 60 yX1_copy, Cond.instanceMethod yX1_copy, Cond.selects RX1 yX1_copy yX1_copy, Cond.initialized RX1, Cond.code yX1_copy cX1_copy 2 none, Cond.fieldLink RX1 9 "HopCredits$Lane" "sent" "I", Cond.fieldLink RX1 15 "HopCredits$Lane" "gone" "I", Cond.fieldLink RX1 18 "HopCredits$Lane" "known" "I", Cond.fieldLink RX1 21 "HopCredits$Lane" "zone" "I", Cond.fieldLink RX1 24 "HopCredits$Lane" "waited" "I", Cond.fieldLink RX1 27 "HopCredits$Lane" "sinceUpdate" "I", Cond.fieldLink RX1 30 "HopCredits$Lane" "sinceAdapt" "I", Cond.methodLink RX3 91 yX0_copy, Cond.instanceMethod yX0_copy, Cond.selects RX0 yX0_copy yX0_copy, Cond.initialized RX0, Cond.code yX0_copy cX0_copy 2 none]
def wsX6_busiest_r4 : List Cond := [Cond.fieldLink RX0 7 "HopCredits$Flow" "gap" "I", Cond.fieldLink RX0 13 "HopCredits$Flow" "start" "I", Cond.fieldLink RX0 16 "HopCredits$Flow" "takes" "I", Cond.fieldLink RX0 19 "HopCredits$Flow" "came" "I", Cond.fieldLink RX0 22 "HopCredits$Flow" "spilt" "I", Cond.fieldLink RX0 25 "HopCredits$Flow" "delivered" "I", Cond.fieldLink RX0 28 "HopCredits$Flow" "cameNow" "Z", Cond.fieldLink RX0 32 "HopCredits$Flow" "deliveredNow" "Z", Cond.methodLink RX6 233 yX3_step, Cond.instanceMethod yX3_step, Cond.selects RX3 yX3_step yX3_step, Cond.code yX3_step cX3_step 2 none, Cond.methodLink RX3 103 yX3_arriveOver, Cond.instanceMethod yX3_arriveOver, Cond.selects RX3 yX3_arriveOver yX3_arriveOver, Cond.code yX3_arriveOver cX3_arriveOver 9 none, Cond.fieldLink RX3 122 "HopCredits$Link" "cellAt" "[I", Cond.fieldLink RX3 125 "HopCredits$Link" "updateAt" "[I", Cond.fieldLink RX3 128 "HopCredits$Link" "lanes" "[LHopCredits$Lane;", Cond.fieldLink RX3 137 "HopCredits$Link" "probesAt" "[I", Cond.methodLink RX3 132 yX1_hear, Cond.instanceMethod yX1_hear, Cond.selects RX1 yX1_hear yX1_hear, Cond.code yX1_hear cX1_hear 2 none]
def wsX6_busiest_r5 : List Cond := [Cond.static yX6_reaches, Cond.code yX6_reaches cX6_reaches 2 (some .boolean), Cond.methodLink RX3 140 yX3_sendUpdate, Cond.instanceMethod yX3_sendUpdate, Cond.selects RX3 yX3_sendUpdate yX3_sendUpdate, Cond.code yX3_sendUpdate cX3_sendUpdate 3 none, Cond.fieldLink RX3 207 "HopCredits$Link" "jammed" "I", Cond.fieldLink RX3 183 "HopCredits$Link" "delay" "I", Cond.fieldLink RX3 198 "HopCredits$Lane" "gone" "I", Cond.methodLink RX3 144 yX2_clearSlot, Cond.instanceMethod yX2_clearSlot, Cond.selects RX2 yX2_clearSlot yX2_clearSlot, Cond.code yX2_clearSlot cX2_clearSlot 3 none, Cond.methodLink RX3 107 yX3_come, Cond.instanceMethod yX3_come, Cond.selects RX3 yX3_come yX3_come, Cond.code yX3_come cX3_come 3 none, Cond.fieldLink RX3 147 "HopCredits$Flow" "cameNow" "Z", Cond.fieldLink RX3 155 "HopCredits$Flow" "came" "I", Cond.fieldLink RX3 158 "HopCredits$Flow" "spilt" "I", Cond.methodLink RX3 151 yX0_comesIn, Cond.instanceMethod yX0_comesIn, Cond.selects RX0 yX0_comesIn yX0_comesIn, Cond.code yX0_comesIn cX0_comesIn 2 (some .boolean)]
def wsX6_busiest_r6 : List Cond := [Cond.methodLink RX3 110 yX3_take, Cond.instanceMethod yX3_take, Cond.selects RX3 yX3_take yX3_take, Cond.code yX3_take cX3_take 4 none, Cond.fieldLink RX3 164 "HopCredits$Flow" "deliveredNow" "Z", Cond.fieldLink RX3 167 "HopCredits$Flow" "delivered" "I", Cond.methodLink RX3 161 yX0_takesIn, Cond.instanceMethod yX0_takesIn, Cond.selects RX0 yX0_takesIn yX0_takesIn, Cond.code yX0_takesIn cX0_takesIn 2 (some .boolean), Cond.methodLink RX3 170 yX3_goneFrom, Cond.instanceMethod yX3_goneFrom, Cond.selects RX3 yX3_goneFrom yX3_goneFrom, Cond.code yX3_goneFrom cX3_goneFrom 5 none, Cond.fieldLink RX3 201 "HopCredits$Lane" "sinceUpdate" "I", Cond.fieldLink RX3 204 "HopCredits$Link" "every" "I", Cond.methodLink RX3 113 yX3_sendOver, Cond.instanceMethod yX3_sendOver, Cond.selects RX3 yX3_sendOver yX3_sendOver, Cond.code yX3_sendOver cX3_sendOver 5 none, Cond.fieldLink RX3 177 "HopCredits$Link" "sender" "I", Cond.fieldLink RX3 180 "HopCredits$Link" "latest" "I", Cond.fieldLink RX3 186 "HopCredits$Lane" "sent" "I", Cond.fieldLink RX3 189 "HopCredits$Lane" "sinceAdapt" "I"]
def wsX6_busiest_r7 : List Cond := [Cond.methodLink RX3 174 yX3_nextSender, Cond.instanceMethod yX3_nextSender, Cond.selects RX3 yX3_nextSender yX3_nextSender, Cond.code yX3_nextSender cX3_nextSender 6 (some .int), Cond.fieldLink RX3 195 "HopCredits$Lane" "zone" "I", Cond.methodLink RX3 192 yX1_out, Cond.instanceMethod yX1_out, Cond.selects RX1 yX1_out yX1_out, Cond.code yX1_out cX1_out 1 (some .int), Cond.methodLink RX3 116 yX3_waitAt, Cond.instanceMethod yX3_waitAt, Cond.selects RX3 yX3_waitAt yX3_waitAt, Cond.code yX3_waitAt cX3_waitAt 4 none, Cond.fieldLink RX3 210 "HopCredits$Lane" "waited" "I", Cond.methodLink RX3 213 yX3_lacksCredit, Cond.instanceMethod yX3_lacksCredit, Cond.selects RX3 yX3_lacksCredit yX3_lacksCredit, Cond.code yX3_lacksCredit cX3_lacksCredit 3 (some .boolean), Cond.methodLink RX3 217 yX3_sendProbe, Cond.instanceMethod yX3_sendProbe, Cond.selects RX3 yX3_sendProbe yX3_sendProbe, Cond.code yX3_sendProbe cX3_sendProbe 3 none, Cond.methodLink RX3 119 yX3_adapt, Cond.instanceMethod yX3_adapt]
def wsX6_busiest_r8 : List Cond := [Cond.selects RX3 yX3_adapt yX3_adapt, Cond.code yX3_adapt cX3_adapt 5 none, Cond.methodLink RX3 224 Lib.Math.min.name, Cond.static Lib.Math.min.name, Cond.initialized "java/lang/Math", Cond.code Lib.Math.min.name Lib.Math.min.code 2 (some .int), Cond.methodLink RX3 64 Lib.Math.max.name, Cond.static Lib.Math.max.name, Cond.code Lib.Math.max.name Lib.Math.max.code 2 (some .int), Cond.methodLink RX3 220 yX3_aimOf, Cond.instanceMethod yX3_aimOf, Cond.selects RX3 yX3_aimOf yX3_aimOf, Cond.code yX3_aimOf cX3_aimOf 5 (some .int), Cond.fieldLink RX3 230 "HopCredits$Link" "pool" "I", Cond.methodLink RX3 227 yX2_roomFor, Cond.instanceMethod yX2_roomFor, Cond.selects RX2 yX2_roomFor yX2_roomFor, Cond.code yX2_roomFor cX2_roomFor 5 (some .int), Cond.fieldLink RX2 64 "HopCredits$Lane" "zone" "I", Cond.methodLink RX2 71 Lib.Math.max.name, Cond.methodLink RX2 67 yX1_out]
def wsX6_busiest : List Cond := .code yX6_busiest cX6_busiest 4 (some .int) :: ((wsX6_busiest_r1 ++ (wsX6_busiest_r2 ++ (wsX6_busiest_r3 ++ (wsX6_busiest_r4 ++ (wsX6_busiest_r5 ++ (wsX6_busiest_r6 ++ (wsX6_busiest_r7 ++ wsX6_busiest_r8))))))) ++ wsX60 ++ wsX30 ++ wsX20 ++ wsX10 ++ wsX00)
def wsX6_isNoLink : List Cond := .code yX6_isNoLink cX6_isNoLink 4 (some .boolean) :: ([.methodLink RX6 55 yX6_outside, .static yX6_outside, .initialized RX6, .code yX6_outside cX6_outside 3 (some .boolean)])
def wsX6_sentAlone_r1 : List Cond := [Cond.fieldLink RX6 30 "HopCredits" "apart" "LHopCredits$Net;", Cond.fieldLink RX6 104 "HopCredits$Net" "links" "[LHopCredits$Link;", Cond.fieldLink RX6 175 "HopCredits$Link" "lanes" "[LHopCredits$Lane;", Cond.fieldLink RX6 205 "HopCredits$Lane" "sinceAdapt" "I", Cond.methodLink RX6 339 yX3_layAlone, Cond.instanceMethod yX3_layAlone, Cond.selects RX3 yX3_layAlone yX3_layAlone, Cond.initialized RX3, Cond.code yX3_layAlone cX3_layAlone 5 none, Cond.fieldLink RX3 11 "HopCredits$Net" "links" "[LHopCredits$Link;", Cond.fieldLink RX3 19 "HopCredits$Net" "flows" "[LHopCredits$Flow;", Cond.fieldLink RX3 23 "HopCredits$Net" "buffers" "[I", Cond.methodLink RX3 42 yX3_layRules, Cond.instanceMethod yX3_layRules, Cond.selects RX3 yX3_layRules yX3_layRules, Cond.code yX3_layRules cX3_layRules 5 none, Cond.fieldLink RX3 53 "HopCredits$Net" "hops" "I", Cond.fieldLink RX3 62 "HopCredits$Net" "circuits" "I", Cond.fieldLink RX3 59 "HopCredits$Net" "reserve" "I", Cond.fieldLink RX3 46 "HopCredits$Net" "adapts" "I", Cond.fieldLink RX3 50 "HopCredits$Net" "probes" "I", Cond.fieldLink RX3 78 "HopCredits$Net" "tick" "I", Cond.fieldLink RX3 81 "HopCredits$Net" "lost" "I", Cond.fieldLink RX3 84 "HopCredits$Net" "probesSent" "I"]
def wsX6_sentAlone_r2 : List Cond := [Cond.methodLink RX3 69 yX2_lay, Cond.instanceMethod yX2_lay, Cond.selects RX2 yX2_lay yX2_lay, Cond.initialized RX2, Cond.code yX2_lay cX2_lay 6 none, Cond.fieldLink RX2 28 "HopCredits$Link" "delay" "I", Cond.fieldLink RX2 32 "HopCredits$Link" "pool" "I", Cond.fieldLink RX2 35 "HopCredits$Link" "every" "I", Cond.fieldLink RX2 38 "HopCredits$Link" "jammed" "I", Cond.fieldLink RX2 41 "HopCredits$Link" "latest" "I", Cond.fieldLink RX2 44 "HopCredits$Link" "sender" "I", Cond.fieldLink RX2 23 "HopCredits$Link" "lanes" "[LHopCredits$Lane;", Cond.methodLink RX2 47 yX2_clearSlot, Cond.instanceMethod yX2_clearSlot, Cond.selects RX2 yX2_clearSlot yX2_clearSlot, Cond.code yX2_clearSlot cX2_clearSlot 3 none, Cond.fieldLink RX2 9 "HopCredits$Link" "cellAt" "[I", Cond.fieldLink RX2 15 "HopCredits$Link" "updateAt" "[I", Cond.fieldLink RX2 18 "HopCredits$Link" "probesAt" "[I", Cond.methodLink RX2 51 yX1_lay, Cond.instanceMethod yX1_lay, Cond.selects RX1 yX1_lay yX1_lay, Cond.initialized RX1, Cond.code yX1_lay cX1_lay 2 none]
def wsX6_sentAlone_r3 : List Cond := [Cond.fieldLink RX1 9 "HopCredits$Lane" "sent" "I", Cond.fieldLink RX1 15 "HopCredits$Lane" "gone" "I", Cond.fieldLink RX1 18 "HopCredits$Lane" "known" "I", Cond.fieldLink RX1 21 "HopCredits$Lane" "zone" "I", Cond.fieldLink RX1 24 "HopCredits$Lane" "waited" "I", Cond.fieldLink RX1 27 "HopCredits$Lane" "sinceUpdate" "I", Cond.fieldLink RX1 30 "HopCredits$Lane" "sinceAdapt" "I", Cond.methodLink RX3 76 yX0_lay, Cond.instanceMethod yX0_lay, Cond.selects RX0 yX0_lay yX0_lay, Cond.initialized RX0, Cond.code yX0_lay cX0_lay 4 none, Cond.fieldLink RX0 7 "HopCredits$Flow" "gap" "I", Cond.fieldLink RX0 13 "HopCredits$Flow" "start" "I", Cond.fieldLink RX0 16 "HopCredits$Flow" "takes" "I", Cond.fieldLink RX0 19 "HopCredits$Flow" "came" "I", Cond.fieldLink RX0 22 "HopCredits$Flow" "spilt" "I", Cond.fieldLink RX0 25 "HopCredits$Flow" "delivered" "I", Cond.fieldLink RX0 28 "HopCredits$Flow" "cameNow" "Z", Cond.fieldLink RX0 32 "HopCredits$Flow" "deliveredNow" "Z", Cond.methodLink RX6 274 yX3_steps, Cond.instanceMethod yX3_steps, Cond.selects RX3 yX3_steps yX3_steps, Cond.code yX3_steps cX3_steps 3 none]
def wsX6_sentAlone_r4 : List Cond := [Cond.methodLink RX3 100 yX3_step, Cond.instanceMethod yX3_step, Cond.selects RX3 yX3_step yX3_step, Cond.code yX3_step cX3_step 2 none, Cond.methodLink RX3 103 yX3_arriveOver, Cond.instanceMethod yX3_arriveOver, Cond.selects RX3 yX3_arriveOver yX3_arriveOver, Cond.code yX3_arriveOver cX3_arriveOver 9 none, Cond.fieldLink RX3 122 "HopCredits$Link" "cellAt" "[I", Cond.fieldLink RX3 125 "HopCredits$Link" "updateAt" "[I", Cond.fieldLink RX3 128 "HopCredits$Link" "lanes" "[LHopCredits$Lane;", Cond.fieldLink RX3 137 "HopCredits$Link" "probesAt" "[I", Cond.methodLink RX3 132 yX1_hear, Cond.instanceMethod yX1_hear, Cond.selects RX1 yX1_hear yX1_hear, Cond.code yX1_hear cX1_hear 2 none, Cond.static yX6_reaches, Cond.initialized RX6, Cond.code yX6_reaches cX6_reaches 2 (some .boolean), Cond.methodLink RX3 140 yX3_sendUpdate, Cond.instanceMethod yX3_sendUpdate, Cond.selects RX3 yX3_sendUpdate yX3_sendUpdate, Cond.code yX3_sendUpdate cX3_sendUpdate 3 none, Cond.fieldLink RX3 207 "HopCredits$Link" "jammed" "I"]
def wsX6_sentAlone_r5 : List Cond := [Cond.fieldLink RX3 183 "HopCredits$Link" "delay" "I", Cond.fieldLink RX3 198 "HopCredits$Lane" "gone" "I", Cond.methodLink RX3 144 yX2_clearSlot, Cond.methodLink RX3 107 yX3_come, Cond.instanceMethod yX3_come, Cond.selects RX3 yX3_come yX3_come, Cond.code yX3_come cX3_come 3 none, Cond.fieldLink RX3 147 "HopCredits$Flow" "cameNow" "Z", Cond.fieldLink RX3 155 "HopCredits$Flow" "came" "I", Cond.fieldLink RX3 158 "HopCredits$Flow" "spilt" "I", Cond.methodLink RX3 151 yX0_comesIn, Cond.instanceMethod yX0_comesIn, Cond.selects RX0 yX0_comesIn yX0_comesIn, Cond.code yX0_comesIn cX0_comesIn 2 (some .boolean), Cond.methodLink RX3 110 yX3_take, Cond.instanceMethod yX3_take, Cond.selects RX3 yX3_take yX3_take, Cond.code yX3_take cX3_take 4 none, Cond.fieldLink RX3 164 "HopCredits$Flow" "deliveredNow" "Z", Cond.fieldLink RX3 167 "HopCredits$Flow" "delivered" "I", Cond.methodLink RX3 161 yX0_takesIn, Cond.instanceMethod yX0_takesIn, Cond.selects RX0 yX0_takesIn yX0_takesIn, Cond.code yX0_takesIn cX0_takesIn 2 (some .boolean)]
def wsX6_sentAlone_r6 : List Cond := [Cond.methodLink RX3 170 yX3_goneFrom, Cond.instanceMethod yX3_goneFrom, Cond.selects RX3 yX3_goneFrom yX3_goneFrom, Cond.code yX3_goneFrom cX3_goneFrom 5 none, Cond.fieldLink RX3 201 "HopCredits$Lane" "sinceUpdate" "I", Cond.fieldLink RX3 204 "HopCredits$Link" "every" "I", Cond.methodLink RX3 113 yX3_sendOver, Cond.instanceMethod yX3_sendOver, Cond.selects RX3 yX3_sendOver yX3_sendOver, Cond.code yX3_sendOver cX3_sendOver 5 none, Cond.fieldLink RX3 177 "HopCredits$Link" "sender" "I", Cond.fieldLink RX3 180 "HopCredits$Link" "latest" "I", Cond.fieldLink RX3 186 "HopCredits$Lane" "sent" "I", Cond.fieldLink RX3 189 "HopCredits$Lane" "sinceAdapt" "I", Cond.methodLink RX3 174 yX3_nextSender, Cond.instanceMethod yX3_nextSender, Cond.selects RX3 yX3_nextSender yX3_nextSender, Cond.code yX3_nextSender cX3_nextSender 6 (some .int), Cond.fieldLink RX3 195 "HopCredits$Lane" "zone" "I", Cond.methodLink RX3 192 yX1_out, Cond.instanceMethod yX1_out, Cond.selects RX1 yX1_out yX1_out, Cond.code yX1_out cX1_out 1 (some .int), Cond.methodLink RX3 116 yX3_waitAt]
def wsX6_sentAlone_r7 : List Cond := [Cond.instanceMethod yX3_waitAt, Cond.selects RX3 yX3_waitAt yX3_waitAt, Cond.code yX3_waitAt cX3_waitAt 4 none, Cond.fieldLink RX3 210 "HopCredits$Lane" "waited" "I", Cond.methodLink RX3 213 yX3_lacksCredit, Cond.instanceMethod yX3_lacksCredit, Cond.selects RX3 yX3_lacksCredit yX3_lacksCredit, Cond.code yX3_lacksCredit cX3_lacksCredit 3 (some .boolean), Cond.methodLink RX3 217 yX3_sendProbe, Cond.instanceMethod yX3_sendProbe, Cond.selects RX3 yX3_sendProbe yX3_sendProbe, Cond.code yX3_sendProbe cX3_sendProbe 3 none, Cond.methodLink RX3 119 yX3_adapt, Cond.instanceMethod yX3_adapt, Cond.selects RX3 yX3_adapt yX3_adapt, Cond.code yX3_adapt cX3_adapt 5 none, Cond.methodLink RX3 224 Lib.Math.min.name, Cond.static Lib.Math.min.name, Cond.initialized "java/lang/Math", Cond.code Lib.Math.min.name Lib.Math.min.code 2 (some .int), Cond.methodLink RX3 64 Lib.Math.max.name, Cond.static Lib.Math.max.name, Cond.code Lib.Math.max.name Lib.Math.max.code 2 (some .int), Cond.methodLink RX3 220 yX3_aimOf]
def wsX6_sentAlone_r8 : List Cond := [Cond.instanceMethod yX3_aimOf, Cond.selects RX3 yX3_aimOf yX3_aimOf, Cond.code yX3_aimOf cX3_aimOf 5 (some .int), Cond.fieldLink RX3 230 "HopCredits$Link" "pool" "I", Cond.methodLink RX3 227 yX2_roomFor, Cond.instanceMethod yX2_roomFor, Cond.selects RX2 yX2_roomFor yX2_roomFor, Cond.code yX2_roomFor cX2_roomFor 5 (some .int), Cond.fieldLink RX2 64 "HopCredits$Lane" "zone" "I", Cond.methodLink RX2 71 Lib.Math.max.name, Cond.methodLink RX2 67 yX1_out]
def wsX6_sentAlone : List Cond := .code yX6_sentAlone cX6_sentAlone 6 (some .int) :: ((wsX6_sentAlone_r1 ++ (wsX6_sentAlone_r2 ++ (wsX6_sentAlone_r3 ++ (wsX6_sentAlone_r4 ++ (wsX6_sentAlone_r5 ++ (wsX6_sentAlone_r6 ++ (wsX6_sentAlone_r7 ++ wsX6_sentAlone_r8))))))) ++ wsX60 ++ wsX30 ++ wsX20 ++ wsX10 ++ wsX00)
def wsX6_alone_r1 : List Cond := [Cond.methodLink RX6 55 yX6_outside, Cond.static yX6_outside, Cond.initialized RX6, Cond.code yX6_outside cX6_outside 3 (some .boolean), Cond.methodLink RX6 331 yX6_isNoLink, Cond.static yX6_isNoLink, Cond.code yX6_isNoLink cX6_isNoLink 4 (some .boolean), Cond.methodLink RX6 335 yX6_sentAlone, Cond.instanceMethod yX6_sentAlone, Cond.selects RX6 yX6_sentAlone yX6_sentAlone, Cond.code yX6_sentAlone cX6_sentAlone 6 (some .int), Cond.fieldLink RX6 30 "HopCredits" "apart" "LHopCredits$Net;", Cond.fieldLink RX6 104 "HopCredits$Net" "links" "[LHopCredits$Link;", Cond.fieldLink RX6 175 "HopCredits$Link" "lanes" "[LHopCredits$Lane;", Cond.fieldLink RX6 205 "HopCredits$Lane" "sinceAdapt" "I", Cond.methodLink RX6 339 yX3_layAlone, Cond.instanceMethod yX3_layAlone, Cond.selects RX3 yX3_layAlone yX3_layAlone, Cond.initialized RX3, Cond.code yX3_layAlone cX3_layAlone 5 none, Cond.fieldLink RX3 11 "HopCredits$Net" "links" "[LHopCredits$Link;", Cond.fieldLink RX3 19 "HopCredits$Net" "flows" "[LHopCredits$Flow;", Cond.fieldLink RX3 23 "HopCredits$Net" "buffers" "[I", Cond.methodLink RX3 42 yX3_layRules]
def wsX6_alone_r2 : List Cond := [Cond.instanceMethod yX3_layRules, Cond.selects RX3 yX3_layRules yX3_layRules, Cond.code yX3_layRules cX3_layRules 5 none, Cond.fieldLink RX3 53 "HopCredits$Net" "hops" "I", Cond.fieldLink RX3 62 "HopCredits$Net" "circuits" "I", Cond.fieldLink RX3 59 "HopCredits$Net" "reserve" "I", Cond.fieldLink RX3 46 "HopCredits$Net" "adapts" "I", Cond.fieldLink RX3 50 "HopCredits$Net" "probes" "I", Cond.fieldLink RX3 78 "HopCredits$Net" "tick" "I", Cond.fieldLink RX3 81 "HopCredits$Net" "lost" "I", Cond.fieldLink RX3 84 "HopCredits$Net" "probesSent" "I", Cond.methodLink RX3 69 yX2_lay, Cond.instanceMethod yX2_lay, Cond.selects RX2 yX2_lay yX2_lay, Cond.initialized RX2, Cond.code yX2_lay cX2_lay 6 none, Cond.fieldLink RX2 28 "HopCredits$Link" "delay" "I", Cond.fieldLink RX2 32 "HopCredits$Link" "pool" "I", Cond.fieldLink RX2 35 "HopCredits$Link" "every" "I", Cond.fieldLink RX2 38 "HopCredits$Link" "jammed" "I", Cond.fieldLink RX2 41 "HopCredits$Link" "latest" "I", Cond.fieldLink RX2 44 "HopCredits$Link" "sender" "I", Cond.fieldLink RX2 23 "HopCredits$Link" "lanes" "[LHopCredits$Lane;", Cond.methodLink RX2 47 yX2_clearSlot]
def wsX6_alone_r3 : List Cond := [Cond.instanceMethod yX2_clearSlot, Cond.selects RX2 yX2_clearSlot yX2_clearSlot, Cond.code yX2_clearSlot cX2_clearSlot 3 none, Cond.fieldLink RX2 9 "HopCredits$Link" "cellAt" "[I", Cond.fieldLink RX2 15 "HopCredits$Link" "updateAt" "[I", Cond.fieldLink RX2 18 "HopCredits$Link" "probesAt" "[I", Cond.methodLink RX2 51 yX1_lay, Cond.instanceMethod yX1_lay, Cond.selects RX1 yX1_lay yX1_lay, Cond.initialized RX1, Cond.code yX1_lay cX1_lay 2 none, Cond.fieldLink RX1 9 "HopCredits$Lane" "sent" "I", Cond.fieldLink RX1 15 "HopCredits$Lane" "gone" "I", Cond.fieldLink RX1 18 "HopCredits$Lane" "known" "I", Cond.fieldLink RX1 21 "HopCredits$Lane" "zone" "I", Cond.fieldLink RX1 24 "HopCredits$Lane" "waited" "I", Cond.fieldLink RX1 27 "HopCredits$Lane" "sinceUpdate" "I", Cond.fieldLink RX1 30 "HopCredits$Lane" "sinceAdapt" "I", Cond.methodLink RX3 76 yX0_lay, Cond.instanceMethod yX0_lay, Cond.selects RX0 yX0_lay yX0_lay, Cond.initialized RX0, Cond.code yX0_lay cX0_lay 4 none, Cond.fieldLink RX0 7 "HopCredits$Flow" "gap" "I"]
def wsX6_alone_r4 : List Cond := [Cond.fieldLink RX0 13 "HopCredits$Flow" "start" "I", Cond.fieldLink RX0 16 "HopCredits$Flow" "takes" "I", Cond.fieldLink RX0 19 "HopCredits$Flow" "came" "I", Cond.fieldLink RX0 22 "HopCredits$Flow" "spilt" "I", Cond.fieldLink RX0 25 "HopCredits$Flow" "delivered" "I", Cond.fieldLink RX0 28 "HopCredits$Flow" "cameNow" "Z", Cond.fieldLink RX0 32 "HopCredits$Flow" "deliveredNow" "Z", Cond.methodLink RX6 274 yX3_steps, Cond.instanceMethod yX3_steps, Cond.selects RX3 yX3_steps yX3_steps, Cond.code yX3_steps cX3_steps 3 none, Cond.methodLink RX3 100 yX3_step, Cond.instanceMethod yX3_step, Cond.selects RX3 yX3_step yX3_step, Cond.code yX3_step cX3_step 2 none, Cond.methodLink RX3 103 yX3_arriveOver, Cond.instanceMethod yX3_arriveOver, Cond.selects RX3 yX3_arriveOver yX3_arriveOver, Cond.code yX3_arriveOver cX3_arriveOver 9 none, Cond.fieldLink RX3 122 "HopCredits$Link" "cellAt" "[I", Cond.fieldLink RX3 125 "HopCredits$Link" "updateAt" "[I", Cond.fieldLink RX3 128 "HopCredits$Link" "lanes" "[LHopCredits$Lane;", Cond.fieldLink RX3 137 "HopCredits$Link" "probesAt" "[I", Cond.methodLink RX3 132 yX1_hear]
def wsX6_alone_r5 : List Cond := [Cond.instanceMethod yX1_hear, Cond.selects RX1 yX1_hear yX1_hear, Cond.code yX1_hear cX1_hear 2 none, Cond.static yX6_reaches, Cond.code yX6_reaches cX6_reaches 2 (some .boolean), Cond.methodLink RX3 140 yX3_sendUpdate, Cond.instanceMethod yX3_sendUpdate, Cond.selects RX3 yX3_sendUpdate yX3_sendUpdate, Cond.code yX3_sendUpdate cX3_sendUpdate 3 none, Cond.fieldLink RX3 207 "HopCredits$Link" "jammed" "I", Cond.fieldLink RX3 183 "HopCredits$Link" "delay" "I", Cond.fieldLink RX3 198 "HopCredits$Lane" "gone" "I", Cond.methodLink RX3 144 yX2_clearSlot, Cond.methodLink RX3 107 yX3_come, Cond.instanceMethod yX3_come, Cond.selects RX3 yX3_come yX3_come, Cond.code yX3_come cX3_come 3 none, Cond.fieldLink RX3 147 "HopCredits$Flow" "cameNow" "Z", Cond.fieldLink RX3 155 "HopCredits$Flow" "came" "I", Cond.fieldLink RX3 158 "HopCredits$Flow" "spilt" "I", Cond.methodLink RX3 151 yX0_comesIn, Cond.instanceMethod yX0_comesIn, Cond.selects RX0 yX0_comesIn yX0_comesIn, Cond.code yX0_comesIn cX0_comesIn 2 (some .boolean)]
def wsX6_alone_r6 : List Cond := [Cond.methodLink RX3 110 yX3_take, Cond.instanceMethod yX3_take, Cond.selects RX3 yX3_take yX3_take, Cond.code yX3_take cX3_take 4 none, Cond.fieldLink RX3 164 "HopCredits$Flow" "deliveredNow" "Z", Cond.fieldLink RX3 167 "HopCredits$Flow" "delivered" "I", Cond.methodLink RX3 161 yX0_takesIn, Cond.instanceMethod yX0_takesIn, Cond.selects RX0 yX0_takesIn yX0_takesIn, Cond.code yX0_takesIn cX0_takesIn 2 (some .boolean), Cond.methodLink RX3 170 yX3_goneFrom, Cond.instanceMethod yX3_goneFrom, Cond.selects RX3 yX3_goneFrom yX3_goneFrom, Cond.code yX3_goneFrom cX3_goneFrom 5 none, Cond.fieldLink RX3 201 "HopCredits$Lane" "sinceUpdate" "I", Cond.fieldLink RX3 204 "HopCredits$Link" "every" "I", Cond.methodLink RX3 113 yX3_sendOver, Cond.instanceMethod yX3_sendOver, Cond.selects RX3 yX3_sendOver yX3_sendOver, Cond.code yX3_sendOver cX3_sendOver 5 none, Cond.fieldLink RX3 177 "HopCredits$Link" "sender" "I", Cond.fieldLink RX3 180 "HopCredits$Link" "latest" "I", Cond.fieldLink RX3 186 "HopCredits$Lane" "sent" "I", Cond.fieldLink RX3 189 "HopCredits$Lane" "sinceAdapt" "I"]
def wsX6_alone_r7 : List Cond := [Cond.methodLink RX3 174 yX3_nextSender, Cond.instanceMethod yX3_nextSender, Cond.selects RX3 yX3_nextSender yX3_nextSender, Cond.code yX3_nextSender cX3_nextSender 6 (some .int), Cond.fieldLink RX3 195 "HopCredits$Lane" "zone" "I", Cond.methodLink RX3 192 yX1_out, Cond.instanceMethod yX1_out, Cond.selects RX1 yX1_out yX1_out, Cond.code yX1_out cX1_out 1 (some .int), Cond.methodLink RX3 116 yX3_waitAt, Cond.instanceMethod yX3_waitAt, Cond.selects RX3 yX3_waitAt yX3_waitAt, Cond.code yX3_waitAt cX3_waitAt 4 none, Cond.fieldLink RX3 210 "HopCredits$Lane" "waited" "I", Cond.methodLink RX3 213 yX3_lacksCredit, Cond.instanceMethod yX3_lacksCredit, Cond.selects RX3 yX3_lacksCredit yX3_lacksCredit, Cond.code yX3_lacksCredit cX3_lacksCredit 3 (some .boolean), Cond.methodLink RX3 217 yX3_sendProbe, Cond.instanceMethod yX3_sendProbe, Cond.selects RX3 yX3_sendProbe yX3_sendProbe, Cond.code yX3_sendProbe cX3_sendProbe 3 none, Cond.methodLink RX3 119 yX3_adapt, Cond.instanceMethod yX3_adapt]
def wsX6_alone_r8 : List Cond := [Cond.selects RX3 yX3_adapt yX3_adapt, Cond.code yX3_adapt cX3_adapt 5 none, Cond.methodLink RX3 224 Lib.Math.min.name, Cond.static Lib.Math.min.name, Cond.initialized "java/lang/Math", Cond.code Lib.Math.min.name Lib.Math.min.code 2 (some .int), Cond.methodLink RX3 64 Lib.Math.max.name, Cond.static Lib.Math.max.name, Cond.code Lib.Math.max.name Lib.Math.max.code 2 (some .int), Cond.methodLink RX3 220 yX3_aimOf, Cond.instanceMethod yX3_aimOf, Cond.selects RX3 yX3_aimOf yX3_aimOf, Cond.code yX3_aimOf cX3_aimOf 5 (some .int), Cond.fieldLink RX3 230 "HopCredits$Link" "pool" "I", Cond.methodLink RX3 227 yX2_roomFor, Cond.instanceMethod yX2_roomFor, Cond.selects RX2 yX2_roomFor yX2_roomFor, Cond.code yX2_roomFor cX2_roomFor 5 (some .int), Cond.fieldLink RX2 64 "HopCredits$Lane" "zone" "I", Cond.methodLink RX2 71 Lib.Math.max.name, Cond.methodLink RX2 67 yX1_out]
def wsX6_alone : List Cond := .code yX6_alone cX6_alone 6 (some .int) :: ((wsX6_alone_r1 ++ (wsX6_alone_r2 ++ (wsX6_alone_r3 ++ (wsX6_alone_r4 ++ (wsX6_alone_r5 ++ (wsX6_alone_r6 ++ (wsX6_alone_r7 ++ wsX6_alone_r8))))))) ++ wsX60 ++ wsX30 ++ wsX20 ++ wsX10 ++ wsX00)
def wsX6_full_r1 : List Cond := [Cond.methodLink RX6 331 yX6_isNoLink, Cond.static yX6_isNoLink, Cond.initialized RX6, Cond.code yX6_isNoLink cX6_isNoLink 4 (some .boolean), Cond.methodLink RX6 55 yX6_outside, Cond.static yX6_outside, Cond.code yX6_outside cX6_outside 3 (some .boolean), Cond.methodLink RX6 335 yX6_sentAlone, Cond.instanceMethod yX6_sentAlone, Cond.selects RX6 yX6_sentAlone yX6_sentAlone, Cond.code yX6_sentAlone cX6_sentAlone 6 (some .int), Cond.fieldLink RX6 30 "HopCredits" "apart" "LHopCredits$Net;", Cond.fieldLink RX6 104 "HopCredits$Net" "links" "[LHopCredits$Link;", Cond.fieldLink RX6 175 "HopCredits$Link" "lanes" "[LHopCredits$Lane;", Cond.fieldLink RX6 205 "HopCredits$Lane" "sinceAdapt" "I", Cond.methodLink RX6 339 yX3_layAlone, Cond.instanceMethod yX3_layAlone, Cond.selects RX3 yX3_layAlone yX3_layAlone, Cond.initialized RX3, Cond.code yX3_layAlone cX3_layAlone 5 none, Cond.fieldLink RX3 11 "HopCredits$Net" "links" "[LHopCredits$Link;", Cond.fieldLink RX3 19 "HopCredits$Net" "flows" "[LHopCredits$Flow;", Cond.fieldLink RX3 23 "HopCredits$Net" "buffers" "[I", Cond.methodLink RX3 42 yX3_layRules]
def wsX6_full_r2 : List Cond := [Cond.instanceMethod yX3_layRules, Cond.selects RX3 yX3_layRules yX3_layRules, Cond.code yX3_layRules cX3_layRules 5 none, Cond.fieldLink RX3 53 "HopCredits$Net" "hops" "I", Cond.fieldLink RX3 62 "HopCredits$Net" "circuits" "I", Cond.fieldLink RX3 59 "HopCredits$Net" "reserve" "I", Cond.fieldLink RX3 46 "HopCredits$Net" "adapts" "I", Cond.fieldLink RX3 50 "HopCredits$Net" "probes" "I", Cond.fieldLink RX3 78 "HopCredits$Net" "tick" "I", Cond.fieldLink RX3 81 "HopCredits$Net" "lost" "I", Cond.fieldLink RX3 84 "HopCredits$Net" "probesSent" "I", Cond.methodLink RX3 69 yX2_lay, Cond.instanceMethod yX2_lay, Cond.selects RX2 yX2_lay yX2_lay, Cond.initialized RX2, Cond.code yX2_lay cX2_lay 6 none, Cond.fieldLink RX2 28 "HopCredits$Link" "delay" "I", Cond.fieldLink RX2 32 "HopCredits$Link" "pool" "I", Cond.fieldLink RX2 35 "HopCredits$Link" "every" "I", Cond.fieldLink RX2 38 "HopCredits$Link" "jammed" "I", Cond.fieldLink RX2 41 "HopCredits$Link" "latest" "I", Cond.fieldLink RX2 44 "HopCredits$Link" "sender" "I", Cond.fieldLink RX2 23 "HopCredits$Link" "lanes" "[LHopCredits$Lane;", Cond.methodLink RX2 47 yX2_clearSlot]
def wsX6_full_r3 : List Cond := [Cond.instanceMethod yX2_clearSlot, Cond.selects RX2 yX2_clearSlot yX2_clearSlot, Cond.code yX2_clearSlot cX2_clearSlot 3 none, Cond.fieldLink RX2 9 "HopCredits$Link" "cellAt" "[I", Cond.fieldLink RX2 15 "HopCredits$Link" "updateAt" "[I", Cond.fieldLink RX2 18 "HopCredits$Link" "probesAt" "[I", Cond.methodLink RX2 51 yX1_lay, Cond.instanceMethod yX1_lay, Cond.selects RX1 yX1_lay yX1_lay, Cond.initialized RX1, Cond.code yX1_lay cX1_lay 2 none, Cond.fieldLink RX1 9 "HopCredits$Lane" "sent" "I", Cond.fieldLink RX1 15 "HopCredits$Lane" "gone" "I", Cond.fieldLink RX1 18 "HopCredits$Lane" "known" "I", Cond.fieldLink RX1 21 "HopCredits$Lane" "zone" "I", Cond.fieldLink RX1 24 "HopCredits$Lane" "waited" "I", Cond.fieldLink RX1 27 "HopCredits$Lane" "sinceUpdate" "I", Cond.fieldLink RX1 30 "HopCredits$Lane" "sinceAdapt" "I", Cond.methodLink RX3 76 yX0_lay, Cond.instanceMethod yX0_lay, Cond.selects RX0 yX0_lay yX0_lay, Cond.initialized RX0, Cond.code yX0_lay cX0_lay 4 none, Cond.fieldLink RX0 7 "HopCredits$Flow" "gap" "I"]
def wsX6_full_r4 : List Cond := [Cond.fieldLink RX0 13 "HopCredits$Flow" "start" "I", Cond.fieldLink RX0 16 "HopCredits$Flow" "takes" "I", Cond.fieldLink RX0 19 "HopCredits$Flow" "came" "I", Cond.fieldLink RX0 22 "HopCredits$Flow" "spilt" "I", Cond.fieldLink RX0 25 "HopCredits$Flow" "delivered" "I", Cond.fieldLink RX0 28 "HopCredits$Flow" "cameNow" "Z", Cond.fieldLink RX0 32 "HopCredits$Flow" "deliveredNow" "Z", Cond.methodLink RX6 274 yX3_steps, Cond.instanceMethod yX3_steps, Cond.selects RX3 yX3_steps yX3_steps, Cond.code yX3_steps cX3_steps 3 none, Cond.methodLink RX3 100 yX3_step, Cond.instanceMethod yX3_step, Cond.selects RX3 yX3_step yX3_step, Cond.code yX3_step cX3_step 2 none, Cond.methodLink RX3 103 yX3_arriveOver, Cond.instanceMethod yX3_arriveOver, Cond.selects RX3 yX3_arriveOver yX3_arriveOver, Cond.code yX3_arriveOver cX3_arriveOver 9 none, Cond.fieldLink RX3 122 "HopCredits$Link" "cellAt" "[I", Cond.fieldLink RX3 125 "HopCredits$Link" "updateAt" "[I", Cond.fieldLink RX3 128 "HopCredits$Link" "lanes" "[LHopCredits$Lane;", Cond.fieldLink RX3 137 "HopCredits$Link" "probesAt" "[I", Cond.methodLink RX3 132 yX1_hear]
def wsX6_full_r5 : List Cond := [Cond.instanceMethod yX1_hear, Cond.selects RX1 yX1_hear yX1_hear, Cond.code yX1_hear cX1_hear 2 none, Cond.static yX6_reaches, Cond.code yX6_reaches cX6_reaches 2 (some .boolean), Cond.methodLink RX3 140 yX3_sendUpdate, Cond.instanceMethod yX3_sendUpdate, Cond.selects RX3 yX3_sendUpdate yX3_sendUpdate, Cond.code yX3_sendUpdate cX3_sendUpdate 3 none, Cond.fieldLink RX3 207 "HopCredits$Link" "jammed" "I", Cond.fieldLink RX3 183 "HopCredits$Link" "delay" "I", Cond.fieldLink RX3 198 "HopCredits$Lane" "gone" "I", Cond.methodLink RX3 144 yX2_clearSlot, Cond.methodLink RX3 107 yX3_come, Cond.instanceMethod yX3_come, Cond.selects RX3 yX3_come yX3_come, Cond.code yX3_come cX3_come 3 none, Cond.fieldLink RX3 147 "HopCredits$Flow" "cameNow" "Z", Cond.fieldLink RX3 155 "HopCredits$Flow" "came" "I", Cond.fieldLink RX3 158 "HopCredits$Flow" "spilt" "I", Cond.methodLink RX3 151 yX0_comesIn, Cond.instanceMethod yX0_comesIn, Cond.selects RX0 yX0_comesIn yX0_comesIn, Cond.code yX0_comesIn cX0_comesIn 2 (some .boolean)]
def wsX6_full_r6 : List Cond := [Cond.methodLink RX3 110 yX3_take, Cond.instanceMethod yX3_take, Cond.selects RX3 yX3_take yX3_take, Cond.code yX3_take cX3_take 4 none, Cond.fieldLink RX3 164 "HopCredits$Flow" "deliveredNow" "Z", Cond.fieldLink RX3 167 "HopCredits$Flow" "delivered" "I", Cond.methodLink RX3 161 yX0_takesIn, Cond.instanceMethod yX0_takesIn, Cond.selects RX0 yX0_takesIn yX0_takesIn, Cond.code yX0_takesIn cX0_takesIn 2 (some .boolean), Cond.methodLink RX3 170 yX3_goneFrom, Cond.instanceMethod yX3_goneFrom, Cond.selects RX3 yX3_goneFrom yX3_goneFrom, Cond.code yX3_goneFrom cX3_goneFrom 5 none, Cond.fieldLink RX3 201 "HopCredits$Lane" "sinceUpdate" "I", Cond.fieldLink RX3 204 "HopCredits$Link" "every" "I", Cond.methodLink RX3 113 yX3_sendOver, Cond.instanceMethod yX3_sendOver, Cond.selects RX3 yX3_sendOver yX3_sendOver, Cond.code yX3_sendOver cX3_sendOver 5 none, Cond.fieldLink RX3 177 "HopCredits$Link" "sender" "I", Cond.fieldLink RX3 180 "HopCredits$Link" "latest" "I", Cond.fieldLink RX3 186 "HopCredits$Lane" "sent" "I", Cond.fieldLink RX3 189 "HopCredits$Lane" "sinceAdapt" "I"]
def wsX6_full_r7 : List Cond := [Cond.methodLink RX3 174 yX3_nextSender, Cond.instanceMethod yX3_nextSender, Cond.selects RX3 yX3_nextSender yX3_nextSender, Cond.code yX3_nextSender cX3_nextSender 6 (some .int), Cond.fieldLink RX3 195 "HopCredits$Lane" "zone" "I", Cond.methodLink RX3 192 yX1_out, Cond.instanceMethod yX1_out, Cond.selects RX1 yX1_out yX1_out, Cond.code yX1_out cX1_out 1 (some .int), Cond.methodLink RX3 116 yX3_waitAt, Cond.instanceMethod yX3_waitAt, Cond.selects RX3 yX3_waitAt yX3_waitAt, Cond.code yX3_waitAt cX3_waitAt 4 none, Cond.fieldLink RX3 210 "HopCredits$Lane" "waited" "I", Cond.methodLink RX3 213 yX3_lacksCredit, Cond.instanceMethod yX3_lacksCredit, Cond.selects RX3 yX3_lacksCredit yX3_lacksCredit, Cond.code yX3_lacksCredit cX3_lacksCredit 3 (some .boolean), Cond.methodLink RX3 217 yX3_sendProbe, Cond.instanceMethod yX3_sendProbe, Cond.selects RX3 yX3_sendProbe yX3_sendProbe, Cond.code yX3_sendProbe cX3_sendProbe 3 none, Cond.methodLink RX3 119 yX3_adapt, Cond.instanceMethod yX3_adapt]
def wsX6_full_r8 : List Cond := [Cond.selects RX3 yX3_adapt yX3_adapt, Cond.code yX3_adapt cX3_adapt 5 none, Cond.methodLink RX3 224 Lib.Math.min.name, Cond.static Lib.Math.min.name, Cond.initialized "java/lang/Math", Cond.code Lib.Math.min.name Lib.Math.min.code 2 (some .int), Cond.methodLink RX3 64 Lib.Math.max.name, Cond.static Lib.Math.max.name, Cond.code Lib.Math.max.name Lib.Math.max.code 2 (some .int), Cond.methodLink RX3 220 yX3_aimOf, Cond.instanceMethod yX3_aimOf, Cond.selects RX3 yX3_aimOf yX3_aimOf, Cond.code yX3_aimOf cX3_aimOf 5 (some .int), Cond.fieldLink RX3 230 "HopCredits$Link" "pool" "I", Cond.methodLink RX3 227 yX2_roomFor, Cond.instanceMethod yX2_roomFor, Cond.selects RX2 yX2_roomFor yX2_roomFor, Cond.code yX2_roomFor cX2_roomFor 5 (some .int), Cond.fieldLink RX2 64 "HopCredits$Lane" "zone" "I", Cond.methodLink RX2 71 Lib.Math.max.name, Cond.methodLink RX2 67 yX1_out]
def wsX6_full : List Cond := .code yX6_full cX6_full 7 (some .int) :: ((wsX6_full_r1 ++ (wsX6_full_r2 ++ (wsX6_full_r3 ++ (wsX6_full_r4 ++ (wsX6_full_r5 ++ (wsX6_full_r6 ++ (wsX6_full_r7 ++ wsX6_full_r8))))))) ++ wsX60 ++ wsX30 ++ wsX20 ++ wsX10 ++ wsX00)
def wsX6_law : List Cond := .code yX6_law cX6_law 4 (some .int) :: ([.methodLink RX6 55 yX6_outside, .static yX6_outside, .initialized RX6, .code yX6_outside cX6_outside 3 (some .boolean)])
def wsX6_aim_r1 : List Cond := [Cond.fieldLink RX6 26 "HopCredits" "now" "LHopCredits$Net;", Cond.fieldLink RX6 104 "HopCredits$Net" "links" "[LHopCredits$Link;", Cond.methodLink RX6 167 yX6_isLane, Cond.instanceMethod yX6_isLane, Cond.selects RX6 yX6_isLane yX6_isLane, Cond.initialized RX6, Cond.code yX6_isLane cX6_isLane 3 (some .boolean), Cond.methodLink RX6 93 yX6_isHop, Cond.instanceMethod yX6_isHop, Cond.selects RX6 yX6_isHop yX6_isHop, Cond.code yX6_isHop cX6_isHop 2 (some .boolean), Cond.fieldLink RX6 70 "HopCredits" "laid" "Z", Cond.fieldLink RX6 78 "HopCredits$Net" "hops" "I", Cond.methodLink RX6 135 yX6_isCircuit, Cond.instanceMethod yX6_isCircuit, Cond.selects RX6 yX6_isCircuit yX6_isCircuit, Cond.code yX6_isCircuit cX6_isCircuit 2 (some .boolean), Cond.fieldLink RX6 74 "HopCredits$Net" "circuits" "I", Cond.methodLink RX6 343 yX3_aimOf, Cond.instanceMethod yX3_aimOf, Cond.selects RX3 yX3_aimOf yX3_aimOf, Cond.initialized RX3, Cond.code yX3_aimOf cX3_aimOf 5 (some .int), Cond.fieldLink RX3 62 "HopCredits$Net" "circuits" "I"]
def wsX6_aim_r2 : List Cond := [Cond.fieldLink RX3 128 "HopCredits$Link" "lanes" "[LHopCredits$Lane;", Cond.fieldLink RX3 189 "HopCredits$Lane" "sinceAdapt" "I", Cond.fieldLink RX3 230 "HopCredits$Link" "pool" "I", Cond.fieldLink RX3 59 "HopCredits$Net" "reserve" "I"]
def wsX6_aim : List Cond := .code yX6_aim cX6_aim 3 (some .int) :: ((wsX6_aim_r1 ++ wsX6_aim_r2) ++ wsX60 ++ wsX30 ++ wsX20 ++ wsX10)
def wsX6_room_r1 : List Cond := [Cond.methodLink RX6 167 yX6_isLane, Cond.instanceMethod yX6_isLane, Cond.selects RX6 yX6_isLane yX6_isLane, Cond.initialized RX6, Cond.code yX6_isLane cX6_isLane 3 (some .boolean), Cond.methodLink RX6 93 yX6_isHop, Cond.instanceMethod yX6_isHop, Cond.selects RX6 yX6_isHop yX6_isHop, Cond.code yX6_isHop cX6_isHop 2 (some .boolean), Cond.fieldLink RX6 70 "HopCredits" "laid" "Z", Cond.fieldLink RX6 26 "HopCredits" "now" "LHopCredits$Net;", Cond.fieldLink RX6 78 "HopCredits$Net" "hops" "I", Cond.methodLink RX6 135 yX6_isCircuit, Cond.instanceMethod yX6_isCircuit, Cond.selects RX6 yX6_isCircuit yX6_isCircuit, Cond.code yX6_isCircuit cX6_isCircuit 2 (some .boolean), Cond.fieldLink RX6 74 "HopCredits$Net" "circuits" "I", Cond.methodLink RX6 252 yX6_largestZone, Cond.instanceMethod yX6_largestZone, Cond.selects RX6 yX6_largestZone yX6_largestZone, Cond.code yX6_largestZone cX6_largestZone 4 (some .int), Cond.fieldLink RX6 104 "HopCredits$Net" "links" "[LHopCredits$Link;", Cond.fieldLink RX6 175 "HopCredits$Link" "lanes" "[LHopCredits$Lane;", Cond.fieldLink RX6 190 "HopCredits$Lane" "zone" "I"]
def wsX6_room_r2 : List Cond := [Cond.methodLink RX6 258 Lib.Math.max.name, Cond.static Lib.Math.max.name, Cond.initialized "java/lang/Math", Cond.code Lib.Math.max.name Lib.Math.max.code 2 (some .int), Cond.methodLink RX6 255 yX2_roomFor, Cond.instanceMethod yX2_roomFor, Cond.selects RX2 yX2_roomFor yX2_roomFor, Cond.initialized RX2, Cond.code yX2_roomFor cX2_roomFor 5 (some .int), Cond.fieldLink RX2 32 "HopCredits$Link" "pool" "I", Cond.fieldLink RX2 23 "HopCredits$Link" "lanes" "[LHopCredits$Lane;", Cond.fieldLink RX2 64 "HopCredits$Lane" "zone" "I", Cond.methodLink RX2 71 Lib.Math.max.name, Cond.methodLink RX2 67 yX1_out, Cond.instanceMethod yX1_out, Cond.selects RX1 yX1_out yX1_out, Cond.initialized RX1, Cond.code yX1_out cX1_out 1 (some .int), Cond.fieldLink RX1 9 "HopCredits$Lane" "sent" "I", Cond.fieldLink RX1 18 "HopCredits$Lane" "known" "I"]
def wsX6_room : List Cond := .code yX6_room cX6_room 3 (some .int) :: ((wsX6_room_r1 ++ wsX6_room_r2) ++ wsX60 ++ wsX30 ++ wsX20 ++ wsX10)
def wsX6_trip : List Cond := .code yX6_trip cX6_trip 3 (some .int) :: ([.fieldLink RX6 26 "HopCredits" "now" "LHopCredits$Net;", .fieldLink RX6 140 "HopCredits$Net" "flows" "[LHopCredits$Flow;", .fieldLink RX6 161 "HopCredits$Flow" "delivered" "I", .fieldLink RX6 35 "HopCredits" "trips" "[LHopCredits$Trips;", .fieldLink RX6 347 "HopCredits$Trips" "latest" "I", .fieldLink RX6 348 "HopCredits$Trips" "longest" "I", .fieldLink RX6 351 "HopCredits$Trips" "total" "I", .methodLink RX6 135 yX6_isCircuit, .instanceMethod yX6_isCircuit, .selects RX6 yX6_isCircuit yX6_isCircuit, .initialized RX6, .code yX6_isCircuit cX6_isCircuit 2 (some .boolean), .fieldLink RX6 70 "HopCredits" "laid" "Z", .fieldLink RX6 74 "HopCredits$Net" "circuits" "I"] ++ wsX60 ++ wsX30 ++ wsX00 ++ wsX50)
def wsX6_oldest : List Cond := .code yX6_oldest cX6_oldest 2 (some .int) :: ([.fieldLink RX6 35 "HopCredits" "trips" "[LHopCredits$Trips;", .fieldLink RX6 354 "HopCredits$Trips" "underway" "I", .fieldLink RX6 26 "HopCredits" "now" "LHopCredits$Net;", .fieldLink RX6 90 "HopCredits$Net" "tick" "I", .methodLink RX6 135 yX6_isCircuit, .instanceMethod yX6_isCircuit, .selects RX6 yX6_isCircuit yX6_isCircuit, .initialized RX6, .code yX6_isCircuit cX6_isCircuit 2 (some .boolean), .fieldLink RX6 70 "HopCredits" "laid" "Z", .fieldLink RX6 74 "HopCredits$Net" "circuits" "I", .methodLink RX6 357 yX5_firstBegun, .instanceMethod yX5_firstBegun, .selects RX5 yX5_firstBegun yX5_firstBegun, .initialized RX5, .code yX5_firstBegun cX5_firstBegun 1 (some .int), .fieldLink RX5 9 "HopCredits$Trips" "begun" "[I", .fieldLink RX5 13 "HopCredits$Trips" "first" "I"] ++ wsX60 ++ wsX50 ++ wsX30)
def wsX6_count_r1 : List Cond := [Cond.fieldLink RX6 47 "HopCredits" "tapeLength" "I", Cond.fieldLink RX6 70 "HopCredits" "laid" "Z", Cond.constant RX6 77 (-1000000), Cond.fieldLink RX6 26 "HopCredits" "now" "LHopCredits$Net;", Cond.fieldLink RX6 360 "HopCredits$Net" "lost" "I", Cond.fieldLink RX6 363 "HopCredits$Net" "probesSent" "I", Cond.methodLink RX6 313 yX3_cellsOfAll, Cond.instanceMethod yX3_cellsOfAll, Cond.selects RX3 yX3_cellsOfAll yX3_cellsOfAll, Cond.initialized RX3, Cond.code yX3_cellsOfAll cX3_cellsOfAll 3 (some .int), Cond.fieldLink RX3 62 "HopCredits$Net" "circuits" "I", Cond.methodLink RX3 239 yX3_cellsOf, Cond.instanceMethod yX3_cellsOf, Cond.selects RX3 yX3_cellsOf yX3_cellsOf, Cond.code yX3_cellsOf cX3_cellsOf 4 (some .int), Cond.fieldLink RX3 53 "HopCredits$Net" "hops" "I", Cond.fieldLink RX3 11 "HopCredits$Net" "links" "[LHopCredits$Link;", Cond.methodLink RX3 233 yX3_waitingAt, Cond.instanceMethod yX3_waitingAt, Cond.selects RX3 yX3_waitingAt yX3_waitingAt, Cond.code yX3_waitingAt cX3_waitingAt 3 (some .int), Cond.fieldLink RX3 23 "HopCredits$Net" "buffers" "[I", Cond.methodLink RX3 236 yX2_cellsOnOf]
def wsX6_count_r2 : List Cond := [Cond.instanceMethod yX2_cellsOnOf, Cond.selects RX2 yX2_cellsOnOf yX2_cellsOnOf, Cond.initialized RX2, Cond.code yX2_cellsOnOf cX2_cellsOnOf 4 (some .int), Cond.fieldLink RX2 9 "HopCredits$Link" "cellAt" "[I", Cond.methodLink RX6 283 yX3_deliveredOfAll, Cond.instanceMethod yX3_deliveredOfAll, Cond.selects RX3 yX3_deliveredOfAll yX3_deliveredOfAll, Cond.code yX3_deliveredOfAll cX3_deliveredOfAll 3 (some .int), Cond.fieldLink RX3 19 "HopCredits$Net" "flows" "[LHopCredits$Flow;", Cond.fieldLink RX3 167 "HopCredits$Flow" "delivered" "I", Cond.methodLink RX6 298 yX3_unknown, Cond.instanceMethod yX3_unknown, Cond.selects RX3 yX3_unknown yX3_unknown, Cond.code yX3_unknown cX3_unknown 5 (some .int), Cond.fieldLink RX3 128 "HopCredits$Link" "lanes" "[LHopCredits$Lane;", Cond.fieldLink RX3 242 "HopCredits$Lane" "known" "I", Cond.fieldLink RX3 198 "HopCredits$Lane" "gone" "I"]
def wsX6_count : List Cond := .code yX6_count cX6_count 2 (some .int) :: ((wsX6_count_r1 ++ wsX6_count_r2) ++ wsX60 ++ wsX30 ++ wsX20 ++ wsX00 ++ wsX10)
def wsX7_in : List Cond := .code yX7_in cX7_in 3 (some .boolean) :: ([])
end
section
def wsX7_init : List Cond := .code yX7_init cX7_init 1 none :: ([.methodLink RX7 3 objectInit, .instanceMethod objectInit, .code objectInit ⟨#[0xb1]⟩ 1 none, .arrayClass .int, .fieldLink RX7 9 "HopCreditsModel" "tape" "[I", .fieldLink RX7 13 "HopCreditsModel" "readRule" "[I", .fieldLink RX7 16 "HopCreditsModel" "readHop" "[I", .fieldLink RX7 19 "HopCreditsModel" "readCircuit" "[I", .fieldLink RX7 22 "HopCreditsModel" "now" "[I", .fieldLink RX7 25 "HopCreditsModel" "refused" "[I", .fieldLink RX7 28 "HopCreditsModel" "rule" "[I", .fieldLink RX7 31 "HopCreditsModel" "hop" "[I", .fieldLink RX7 34 "HopCreditsModel" "aims" "[I", .fieldLink RX7 37 "HopCreditsModel" "aside" "[I", .fieldLink RX7 40 "HopCreditsModel" "sentNow" "[I", .fieldLink RX7 43 "HopCreditsModel" "aloneCell" "[I", .fieldLink RX7 46 "HopCreditsModel" "aloneTold" "[I"] ++ wsX70)
def wsX7_thrown : List Cond := .code yX7_thrown cX7_thrown 1 (some .int) :: ([.fieldLink RX7 49 "HopCreditsModel" "thrown" "I"] ++ wsX70)
def wsX7_byteOf : List Cond := .code yX7_byteOf cX7_byteOf 7 (some .int) :: ([])
def wsX7_feed : List Cond := .code yX7_feed cX7_feed 9 (some .int) :: ([.fieldLink RX7 49 "HopCreditsModel" "thrown" "I", .fieldLink RX7 57 "HopCreditsModel" "taped" "I", .fieldLink RX7 9 "HopCreditsModel" "tape" "[I", .methodLink RX7 53 yX7_byteOf, .static yX7_byteOf, .initialized RX7, .code yX7_byteOf cX7_byteOf 7 (some .int)] ++ wsX70)
def wsX7_end : List Cond := .code yX7_end cX7_end 2 (some .boolean) :: ([.fieldLink RX7 49 "HopCreditsModel" "thrown" "I", .fieldLink RX7 57 "HopCreditsModel" "taped" "I", .methodLink RX7 60 yX7_in, .static yX7_in, .initialized RX7, .code yX7_in cX7_in 3 (some .boolean)] ++ wsX70)
def wsX7_here : List Cond := .code yX7_here cX7_here 1 (some .int) :: ([.fieldLink RX7 64 "HopCreditsModel" "at" "I", .fieldLink RX7 57 "HopCreditsModel" "taped" "I", .fieldLink RX7 9 "HopCreditsModel" "tape" "[I"] ++ wsX70)
def wsX7_ahead : List Cond := .code yX7_ahead cX7_ahead 1 (some .int) :: ([.fieldLink RX7 64 "HopCreditsModel" "at" "I", .methodLink RX7 67 yX7_here, .instanceMethod yX7_here, .selects RX7 yX7_here yX7_here, .initialized RX7, .code yX7_here cX7_here 1 (some .int), .fieldLink RX7 57 "HopCreditsModel" "taped" "I", .fieldLink RX7 9 "HopCreditsModel" "tape" "[I"] ++ wsX70)
def wsX7_bad : List Cond := .code yX7_bad cX7_bad 1 none :: ([.fieldLink RX7 71 "HopCreditsModel" "wrong" "I", .fieldLink RX7 64 "HopCreditsModel" "at" "I"] ++ wsX70)
def wsX7_usual : List Cond := .code yX7_usual cX7_usual 2 (some .int) :: ([])
def wsX7_laysUsual : List Cond := .code yX7_laysUsual cX7_laysUsual 5 none :: ([.methodLink RX7 84 yX7_usual, .static yX7_usual, .initialized RX7, .code yX7_usual cX7_usual 2 (some .int)])
def wsX7_clause_r1 : List Cond := [Cond.fieldLink RX7 64 "HopCreditsModel" "at" "I", Cond.fieldLink RX7 13 "HopCreditsModel" "readRule" "[I", Cond.fieldLink RX7 111 "HopCreditsModel" "readHops" "I", Cond.fieldLink RX7 16 "HopCreditsModel" "readHop" "[I", Cond.fieldLink RX7 114 "HopCreditsModel" "readCircuits" "I", Cond.fieldLink RX7 19 "HopCreditsModel" "readCircuit" "[I", Cond.methodLink RX7 74 yX7_ahead, Cond.instanceMethod yX7_ahead, Cond.selects RX7 yX7_ahead yX7_ahead, Cond.initialized RX7, Cond.code yX7_ahead cX7_ahead 1 (some .int), Cond.methodLink RX7 67 yX7_here, Cond.instanceMethod yX7_here, Cond.selects RX7 yX7_here yX7_here, Cond.code yX7_here cX7_here 1 (some .int), Cond.fieldLink RX7 57 "HopCreditsModel" "taped" "I", Cond.fieldLink RX7 9 "HopCreditsModel" "tape" "[I", Cond.methodLink RX7 108 yX7_items, Cond.instanceMethod yX7_items, Cond.selects RX7 yX7_items yX7_items, Cond.code yX7_items cX7_items 6 none, Cond.fieldLink RX7 71 "HopCreditsModel" "wrong" "I", Cond.methodLink RX7 88 yX7_laysUsual, Cond.instanceMethod yX7_laysUsual]
def wsX7_clause_r2 : List Cond := [Cond.selects RX7 yX7_laysUsual yX7_laysUsual, Cond.code yX7_laysUsual cX7_laysUsual 5 none, Cond.methodLink RX7 84 yX7_usual, Cond.static yX7_usual, Cond.code yX7_usual cX7_usual 2 (some .int), Cond.methodLink RX7 92 yX7_itemBy, Cond.static yX7_itemBy, Cond.code yX7_itemBy cX7_itemBy 2 (some .int), Cond.methodLink RX7 95 yX7_has, Cond.static yX7_has, Cond.code yX7_has cX7_has 2 (some .boolean), Cond.methodLink RX7 99 yX7_lowest, Cond.static yX7_lowest, Cond.code yX7_lowest cX7_lowest 2 (some .int), Cond.methodLink RX7 102 yX7_highest, Cond.static yX7_highest, Cond.code yX7_highest cX7_highest 2 (some .int), Cond.methodLink RX7 105 yX7_number, Cond.instanceMethod yX7_number, Cond.selects RX7 yX7_number yX7_number, Cond.code yX7_number cX7_number 5 (some .int), Cond.methodLink RX7 77 yX7_isDigit, Cond.static yX7_isDigit, Cond.code yX7_isDigit cX7_isDigit 1 (some .boolean)]
def wsX7_clause_r3 : List Cond := [Cond.methodLink RX7 81 yX7_bad, Cond.instanceMethod yX7_bad, Cond.selects RX7 yX7_bad yX7_bad, Cond.code yX7_bad cX7_bad 1 none, Cond.methodLink RX7 60 yX7_in, Cond.static yX7_in, Cond.code yX7_in cX7_in 3 (some .boolean)]
def wsX7_clause : List Cond := .code yX7_clause cX7_clause 3 none :: ((wsX7_clause_r1 ++ (wsX7_clause_r2 ++ wsX7_clause_r3)) ++ wsX70)
def wsX7_readNet_r1 : List Cond := [Cond.fieldLink RX7 64 "HopCreditsModel" "at" "I", Cond.fieldLink RX7 71 "HopCreditsModel" "wrong" "I", Cond.fieldLink RX7 111 "HopCreditsModel" "readHops" "I", Cond.fieldLink RX7 114 "HopCreditsModel" "readCircuits" "I", Cond.fieldLink RX7 13 "HopCreditsModel" "readRule" "[I", Cond.methodLink RX7 88 yX7_laysUsual, Cond.instanceMethod yX7_laysUsual, Cond.selects RX7 yX7_laysUsual yX7_laysUsual, Cond.initialized RX7, Cond.code yX7_laysUsual cX7_laysUsual 5 none, Cond.methodLink RX7 84 yX7_usual, Cond.static yX7_usual, Cond.code yX7_usual cX7_usual 2 (some .int), Cond.methodLink RX7 117 yX7_clause, Cond.instanceMethod yX7_clause, Cond.selects RX7 yX7_clause yX7_clause, Cond.code yX7_clause cX7_clause 3 none, Cond.fieldLink RX7 16 "HopCreditsModel" "readHop" "[I", Cond.fieldLink RX7 19 "HopCreditsModel" "readCircuit" "[I", Cond.methodLink RX7 74 yX7_ahead, Cond.instanceMethod yX7_ahead, Cond.selects RX7 yX7_ahead yX7_ahead, Cond.code yX7_ahead cX7_ahead 1 (some .int), Cond.methodLink RX7 67 yX7_here]
def wsX7_readNet_r2 : List Cond := [Cond.instanceMethod yX7_here, Cond.selects RX7 yX7_here yX7_here, Cond.code yX7_here cX7_here 1 (some .int), Cond.fieldLink RX7 57 "HopCreditsModel" "taped" "I", Cond.fieldLink RX7 9 "HopCreditsModel" "tape" "[I", Cond.methodLink RX7 108 yX7_items, Cond.instanceMethod yX7_items, Cond.selects RX7 yX7_items yX7_items, Cond.code yX7_items cX7_items 6 none, Cond.methodLink RX7 92 yX7_itemBy, Cond.static yX7_itemBy, Cond.code yX7_itemBy cX7_itemBy 2 (some .int), Cond.methodLink RX7 95 yX7_has, Cond.static yX7_has, Cond.code yX7_has cX7_has 2 (some .boolean), Cond.methodLink RX7 99 yX7_lowest, Cond.static yX7_lowest, Cond.code yX7_lowest cX7_lowest 2 (some .int), Cond.methodLink RX7 102 yX7_highest, Cond.static yX7_highest, Cond.code yX7_highest cX7_highest 2 (some .int), Cond.methodLink RX7 105 yX7_number, Cond.instanceMethod yX7_number, Cond.selects RX7 yX7_number yX7_number]
def wsX7_readNet_r3 : List Cond := [Cond.code yX7_number cX7_number 5 (some .int), Cond.methodLink RX7 77 yX7_isDigit, Cond.static yX7_isDigit, Cond.code yX7_isDigit cX7_isDigit 1 (some .boolean), Cond.methodLink RX7 81 yX7_bad, Cond.instanceMethod yX7_bad, Cond.selects RX7 yX7_bad yX7_bad, Cond.code yX7_bad cX7_bad 1 none, Cond.methodLink RX7 60 yX7_in, Cond.static yX7_in, Cond.code yX7_in cX7_in 3 (some .boolean)]
def wsX7_readNet : List Cond := .code yX7_readNet cX7_readNet 3 (some .int) :: ((wsX7_readNet_r1 ++ (wsX7_readNet_r2 ++ wsX7_readNet_r3)) ++ wsX70)
def wsX7_fault_r1 : List Cond := [Cond.fieldLink RX7 49 "HopCreditsModel" "thrown" "I", Cond.methodLink RX7 121 yX7_readNet, Cond.instanceMethod yX7_readNet, Cond.selects RX7 yX7_readNet yX7_readNet, Cond.initialized RX7, Cond.code yX7_readNet cX7_readNet 3 (some .int), Cond.fieldLink RX7 64 "HopCreditsModel" "at" "I", Cond.fieldLink RX7 71 "HopCreditsModel" "wrong" "I", Cond.fieldLink RX7 111 "HopCreditsModel" "readHops" "I", Cond.fieldLink RX7 114 "HopCreditsModel" "readCircuits" "I", Cond.fieldLink RX7 13 "HopCreditsModel" "readRule" "[I", Cond.methodLink RX7 88 yX7_laysUsual, Cond.instanceMethod yX7_laysUsual, Cond.selects RX7 yX7_laysUsual yX7_laysUsual, Cond.code yX7_laysUsual cX7_laysUsual 5 none, Cond.methodLink RX7 84 yX7_usual, Cond.static yX7_usual, Cond.code yX7_usual cX7_usual 2 (some .int), Cond.methodLink RX7 117 yX7_clause, Cond.instanceMethod yX7_clause, Cond.selects RX7 yX7_clause yX7_clause, Cond.code yX7_clause cX7_clause 3 none, Cond.fieldLink RX7 16 "HopCreditsModel" "readHop" "[I", Cond.fieldLink RX7 19 "HopCreditsModel" "readCircuit" "[I"]
def wsX7_fault_r2 : List Cond := [Cond.methodLink RX7 74 yX7_ahead, Cond.instanceMethod yX7_ahead, Cond.selects RX7 yX7_ahead yX7_ahead, Cond.code yX7_ahead cX7_ahead 1 (some .int), Cond.methodLink RX7 67 yX7_here, Cond.instanceMethod yX7_here, Cond.selects RX7 yX7_here yX7_here, Cond.code yX7_here cX7_here 1 (some .int), Cond.fieldLink RX7 57 "HopCreditsModel" "taped" "I", Cond.fieldLink RX7 9 "HopCreditsModel" "tape" "[I", Cond.methodLink RX7 108 yX7_items, Cond.instanceMethod yX7_items, Cond.selects RX7 yX7_items yX7_items, Cond.code yX7_items cX7_items 6 none, Cond.methodLink RX7 92 yX7_itemBy, Cond.static yX7_itemBy, Cond.code yX7_itemBy cX7_itemBy 2 (some .int), Cond.methodLink RX7 95 yX7_has, Cond.static yX7_has, Cond.code yX7_has cX7_has 2 (some .boolean), Cond.methodLink RX7 99 yX7_lowest, Cond.static yX7_lowest, Cond.code yX7_lowest cX7_lowest 2 (some .int), Cond.methodLink RX7 102 yX7_highest]
def wsX7_fault_r3 : List Cond := [Cond.static yX7_highest, Cond.code yX7_highest cX7_highest 2 (some .int), Cond.methodLink RX7 105 yX7_number, Cond.instanceMethod yX7_number, Cond.selects RX7 yX7_number yX7_number, Cond.code yX7_number cX7_number 5 (some .int), Cond.methodLink RX7 77 yX7_isDigit, Cond.static yX7_isDigit, Cond.code yX7_isDigit cX7_isDigit 1 (some .boolean), Cond.methodLink RX7 81 yX7_bad, Cond.instanceMethod yX7_bad, Cond.selects RX7 yX7_bad yX7_bad, Cond.code yX7_bad cX7_bad 1 none, Cond.methodLink RX7 60 yX7_in, Cond.static yX7_in, Cond.code yX7_in cX7_in 3 (some .boolean)]
def wsX7_fault : List Cond := .code yX7_fault cX7_fault 1 (some .int) :: ((wsX7_fault_r1 ++ (wsX7_fault_r2 ++ wsX7_fault_r3)) ++ wsX70)
def wsX7_isNet : List Cond := .code yX7_isNet cX7_isNet 1 (some .boolean) :: ([.fieldLink RX7 124 "HopCreditsModel" "hops" "I"] ++ wsX70)
def wsX7_isHop : List Cond := .code yX7_isHop cX7_isHop 2 (some .boolean) :: ([.fieldLink RX7 124 "HopCreditsModel" "hops" "I", .methodLink RX7 60 yX7_in, .static yX7_in, .initialized RX7, .code yX7_in cX7_in 3 (some .boolean)] ++ wsX70)
def wsX7_isCircuit : List Cond := .code yX7_isCircuit cX7_isCircuit 2 (some .boolean) :: ([.fieldLink RX7 127 "HopCreditsModel" "circuits" "I", .methodLink RX7 60 yX7_in, .static yX7_in, .initialized RX7, .code yX7_in cX7_in 3 (some .boolean)] ++ wsX70)
def wsX7_isLane : List Cond := .code yX7_isLane cX7_isLane 3 (some .boolean) :: ([.methodLink RX7 130 yX7_isHop, .instanceMethod yX7_isHop, .selects RX7 yX7_isHop yX7_isHop, .initialized RX7, .code yX7_isHop cX7_isHop 2 (some .boolean), .fieldLink RX7 124 "HopCreditsModel" "hops" "I", .methodLink RX7 60 yX7_in, .static yX7_in, .code yX7_in cX7_in 3 (some .boolean), .methodLink RX7 133 yX7_isCircuit, .instanceMethod yX7_isCircuit, .selects RX7 yX7_isCircuit yX7_isCircuit, .code yX7_isCircuit cX7_isCircuit 2 (some .boolean), .fieldLink RX7 127 "HopCreditsModel" "circuits" "I"] ++ wsX70)
def wsX7_isNode : List Cond := .code yX7_isNode cX7_isNode 2 (some .boolean) :: ([.fieldLink RX7 124 "HopCreditsModel" "hops" "I", .methodLink RX7 136 yX7_isNet, .instanceMethod yX7_isNet, .selects RX7 yX7_isNet yX7_isNet, .initialized RX7, .code yX7_isNet cX7_isNet 1 (some .boolean), .methodLink RX7 60 yX7_in, .static yX7_in, .code yX7_in cX7_in 3 (some .boolean)] ++ wsX70)
def wsX7_net_r1 : List Cond := [Cond.fieldLink RX7 49 "HopCreditsModel" "thrown" "I", Cond.fieldLink RX7 57 "HopCreditsModel" "taped" "I", Cond.fieldLink RX7 111 "HopCreditsModel" "readHops" "I", Cond.fieldLink RX7 16 "HopCreditsModel" "readHop" "[I", Cond.fieldLink RX7 114 "HopCreditsModel" "readCircuits" "I", Cond.fieldLink RX7 19 "HopCreditsModel" "readCircuit" "[I", Cond.fieldLink RX7 124 "HopCreditsModel" "hops" "I", Cond.fieldLink RX7 127 "HopCreditsModel" "circuits" "I", Cond.fieldLink RX7 22 "HopCreditsModel" "now" "[I", Cond.fieldLink RX7 28 "HopCreditsModel" "rule" "[I", Cond.fieldLink RX7 13 "HopCreditsModel" "readRule" "[I", Cond.methodLink RX7 121 yX7_readNet, Cond.instanceMethod yX7_readNet, Cond.selects RX7 yX7_readNet yX7_readNet, Cond.initialized RX7, Cond.code yX7_readNet cX7_readNet 3 (some .int), Cond.fieldLink RX7 64 "HopCreditsModel" "at" "I", Cond.fieldLink RX7 71 "HopCreditsModel" "wrong" "I", Cond.methodLink RX7 88 yX7_laysUsual, Cond.instanceMethod yX7_laysUsual, Cond.selects RX7 yX7_laysUsual yX7_laysUsual, Cond.code yX7_laysUsual cX7_laysUsual 5 none, Cond.methodLink RX7 84 yX7_usual, Cond.static yX7_usual]
def wsX7_net_r2 : List Cond := [Cond.code yX7_usual cX7_usual 2 (some .int), Cond.methodLink RX7 117 yX7_clause, Cond.instanceMethod yX7_clause, Cond.selects RX7 yX7_clause yX7_clause, Cond.code yX7_clause cX7_clause 3 none, Cond.methodLink RX7 74 yX7_ahead, Cond.instanceMethod yX7_ahead, Cond.selects RX7 yX7_ahead yX7_ahead, Cond.code yX7_ahead cX7_ahead 1 (some .int), Cond.methodLink RX7 67 yX7_here, Cond.instanceMethod yX7_here, Cond.selects RX7 yX7_here yX7_here, Cond.code yX7_here cX7_here 1 (some .int), Cond.fieldLink RX7 9 "HopCreditsModel" "tape" "[I", Cond.methodLink RX7 108 yX7_items, Cond.instanceMethod yX7_items, Cond.selects RX7 yX7_items yX7_items, Cond.code yX7_items cX7_items 6 none, Cond.methodLink RX7 92 yX7_itemBy, Cond.static yX7_itemBy, Cond.code yX7_itemBy cX7_itemBy 2 (some .int), Cond.methodLink RX7 95 yX7_has, Cond.static yX7_has, Cond.code yX7_has cX7_has 2 (some .boolean)]
def wsX7_net_r3 : List Cond := [Cond.methodLink RX7 99 yX7_lowest, Cond.static yX7_lowest, Cond.code yX7_lowest cX7_lowest 2 (some .int), Cond.methodLink RX7 102 yX7_highest, Cond.static yX7_highest, Cond.code yX7_highest cX7_highest 2 (some .int), Cond.methodLink RX7 105 yX7_number, Cond.instanceMethod yX7_number, Cond.selects RX7 yX7_number yX7_number, Cond.code yX7_number cX7_number 5 (some .int), Cond.methodLink RX7 77 yX7_isDigit, Cond.static yX7_isDigit, Cond.code yX7_isDigit cX7_isDigit 1 (some .boolean), Cond.methodLink RX7 81 yX7_bad, Cond.instanceMethod yX7_bad, Cond.selects RX7 yX7_bad yX7_bad, Cond.code yX7_bad cX7_bad 1 none, Cond.methodLink RX7 60 yX7_in, Cond.static yX7_in, Cond.code yX7_in cX7_in 3 (some .boolean), Cond.methodLink RX7 143 yX7_laysHop, Cond.instanceMethod yX7_laysHop, Cond.selects RX7 yX7_laysHop yX7_laysHop, Cond.code yX7_laysHop cX7_laysHop 3 none]
def wsX7_net_r4 : List Cond := [Cond.fieldLink RX7 31 "HopCreditsModel" "hop" "[I", Cond.methodLink RX7 154 Lib.Math.max.name, Cond.static Lib.Math.max.name, Cond.initialized "java/lang/Math", Cond.code Lib.Math.max.name Lib.Math.max.code 2 (some .int), Cond.methodLink RX7 151 yX7_pool, Cond.instanceMethod yX7_pool, Cond.selects RX7 yX7_pool yX7_pool, Cond.code yX7_pool cX7_pool 2 (some .int), Cond.methodLink RX7 159 yX7_clearsWay, Cond.instanceMethod yX7_clearsWay, Cond.selects RX7 yX7_clearsWay yX7_clearsWay, Cond.code yX7_clearsWay cX7_clearsWay 5 none, Cond.methodLink RX7 140 yX7_wayAt, Cond.static yX7_wayAt, Cond.code yX7_wayAt cX7_wayAt 2 (some .int), Cond.methodLink RX7 163 yX7_lane, Cond.static yX7_lane, Cond.code yX7_lane cX7_lane 2 (some .int), Cond.methodLink RX7 147 yX7_circuitAt, Cond.static yX7_circuitAt, Cond.code yX7_circuitAt cX7_circuitAt 1 (some .int)]
def wsX7_net : List Cond := .code yX7_net cX7_net 3 (some .int) :: ((wsX7_net_r1 ++ (wsX7_net_r2 ++ (wsX7_net_r3 ++ wsX7_net_r4))) ++ wsX70)
def wsX7_refuses : List Cond := .code yX7_refuses cX7_refuses 2 (some .int) :: ([.fieldLink RX7 25 "HopCreditsModel" "refused" "[I"] ++ wsX70)
def wsX7_go_r1 : List Cond := [Cond.fieldLink RX7 49 "HopCreditsModel" "thrown" "I", Cond.fieldLink RX7 22 "HopCreditsModel" "now" "[I", Cond.methodLink RX7 136 yX7_isNet, Cond.instanceMethod yX7_isNet, Cond.selects RX7 yX7_isNet yX7_isNet, Cond.initialized RX7, Cond.code yX7_isNet cX7_isNet 1 (some .boolean), Cond.fieldLink RX7 124 "HopCreditsModel" "hops" "I", Cond.methodLink RX7 223 yX7_refuses, Cond.instanceMethod yX7_refuses, Cond.selects RX7 yX7_refuses yX7_refuses, Cond.code yX7_refuses cX7_refuses 2 (some .int), Cond.fieldLink RX7 25 "HopCreditsModel" "refused" "[I", Cond.methodLink RX7 60 yX7_in, Cond.static yX7_in, Cond.code yX7_in cX7_in 3 (some .boolean), Cond.methodLink RX7 226 yX7_ticks, Cond.instanceMethod yX7_ticks, Cond.selects RX7 yX7_ticks yX7_ticks, Cond.code yX7_ticks cX7_ticks 2 none, Cond.fieldLink RX7 127 "HopCreditsModel" "circuits" "I", Cond.fieldLink RX7 28 "HopCreditsModel" "rule" "[I", Cond.methodLink RX7 205 yX7_arrives, Cond.instanceMethod yX7_arrives]
def wsX7_go_r2 : List Cond := [Cond.selects RX7 yX7_arrives yX7_arrives, Cond.code yX7_arrives cX7_arrives 6 none, Cond.methodLink RX7 140 yX7_wayAt, Cond.static yX7_wayAt, Cond.code yX7_wayAt cX7_wayAt 2 (some .int), Cond.methodLink RX7 184 yX7_bufferAt, Cond.static yX7_bufferAt, Cond.code yX7_bufferAt cX7_bufferAt 2 (some .int), Cond.methodLink RX7 163 yX7_lane, Cond.static yX7_lane, Cond.code yX7_lane cX7_lane 2 (some .int), Cond.methodLink RX7 166 yX7_less, Cond.static yX7_less, Cond.code yX7_less cX7_less 2 (some .int), Cond.methodLink RX7 159 yX7_clearsWay, Cond.instanceMethod yX7_clearsWay, Cond.selects RX7 yX7_clearsWay yX7_clearsWay, Cond.code yX7_clearsWay cX7_clearsWay 5 none, Cond.methodLink RX7 95 yX7_has, Cond.static yX7_has, Cond.code yX7_has cX7_has 2 (some .boolean), Cond.methodLink RX7 181 yX7_updates, Cond.instanceMethod yX7_updates, Cond.selects RX7 yX7_updates yX7_updates]
def wsX7_go_r3 : List Cond := [Cond.code yX7_updates cX7_updates 3 none, Cond.methodLink RX7 178 yX7_delay, Cond.instanceMethod yX7_delay, Cond.selects RX7 yX7_delay yX7_delay, Cond.code yX7_delay cX7_delay 2 (some .int), Cond.fieldLink RX7 31 "HopCreditsModel" "hop" "[I", Cond.methodLink RX7 208 yX7_comes, Cond.instanceMethod yX7_comes, Cond.selects RX7 yX7_comes yX7_comes, Cond.code yX7_comes cX7_comes 5 none, Cond.methodLink RX7 147 yX7_circuitAt, Cond.static yX7_circuitAt, Cond.code yX7_circuitAt cX7_circuitAt 1 (some .int), Cond.methodLink RX7 211 yX7_isTaken, Cond.instanceMethod yX7_isTaken, Cond.selects RX7 yX7_isTaken yX7_isTaken, Cond.code yX7_isTaken cX7_isTaken 4 none, Cond.methodLink RX7 154 Lib.Math.max.name, Cond.static Lib.Math.max.name, Cond.initialized "java/lang/Math", Cond.code Lib.Math.max.name Lib.Math.max.code 2 (some .int), Cond.methodLink RX7 187 yX7_goesFrom, Cond.instanceMethod yX7_goesFrom, Cond.selects RX7 yX7_goesFrom yX7_goesFrom]
def wsX7_go_r4 : List Cond := [Cond.code yX7_goesFrom cX7_goesFrom 4 none, Cond.methodLink RX7 214 yX7_sends, Cond.instanceMethod yX7_sends, Cond.selects RX7 yX7_sends yX7_sends, Cond.code yX7_sends cX7_sends 4 none, Cond.methodLink RX7 193 yX7_sender, Cond.instanceMethod yX7_sender, Cond.selects RX7 yX7_sender yX7_sender, Cond.code yX7_sender cX7_sender 5 (some .int), Cond.methodLink RX7 190 yX7_credit, Cond.instanceMethod yX7_credit, Cond.selects RX7 yX7_credit yX7_credit, Cond.code yX7_credit cX7_credit 3 (some .int), Cond.methodLink RX7 169 yX7_outOf, Cond.instanceMethod yX7_outOf, Cond.selects RX7 yX7_outOf yX7_outOf, Cond.code yX7_outOf cX7_outOf 3 (some .int), Cond.methodLink RX7 217 yX7_waits, Cond.instanceMethod yX7_waits, Cond.selects RX7 yX7_waits yX7_waits, Cond.code yX7_waits cX7_waits 4 none, Cond.methodLink RX7 196 yX7_isHeld, Cond.instanceMethod yX7_isHeld, Cond.selects RX7 yX7_isHeld yX7_isHeld]
def wsX7_go_r5 : List Cond := [Cond.code yX7_isHeld cX7_isHeld 3 (some .boolean), Cond.methodLink RX7 199 yX7_probes, Cond.instanceMethod yX7_probes, Cond.selects RX7 yX7_probes yX7_probes, Cond.code yX7_probes cX7_probes 3 none, Cond.methodLink RX7 220 yX7_adapts, Cond.instanceMethod yX7_adapts, Cond.selects RX7 yX7_adapts yX7_adapts, Cond.code yX7_adapts cX7_adapts 4 none, Cond.fieldLink RX7 34 "HopCreditsModel" "aims" "[I", Cond.methodLink RX7 175 Lib.Math.min.name, Cond.static Lib.Math.min.name, Cond.code Lib.Math.min.name Lib.Math.min.code 2 (some .int), Cond.methodLink RX7 202 yX7_aimOf, Cond.instanceMethod yX7_aimOf, Cond.selects RX7 yX7_aimOf yX7_aimOf, Cond.code yX7_aimOf cX7_aimOf 5 (some .int), Cond.methodLink RX7 151 yX7_pool, Cond.instanceMethod yX7_pool, Cond.selects RX7 yX7_pool yX7_pool, Cond.code yX7_pool cX7_pool 2 (some .int), Cond.methodLink RX7 172 yX7_leftFor, Cond.instanceMethod yX7_leftFor, Cond.selects RX7 yX7_leftFor yX7_leftFor]
def wsX7_go_r6 : List Cond := [Cond.code yX7_leftFor cX7_leftFor 5 (some .int)]
def wsX7_go : List Cond := .code yX7_go cX7_go 3 (some .int) :: ((wsX7_go_r1 ++ (wsX7_go_r2 ++ (wsX7_go_r3 ++ (wsX7_go_r4 ++ (wsX7_go_r5 ++ wsX7_go_r6))))) ++ wsX70)
def wsX7_jam : List Cond := .code yX7_jam cX7_jam 4 (some .int) :: ([.fieldLink RX7 49 "HopCreditsModel" "thrown" "I", .fieldLink RX7 22 "HopCreditsModel" "now" "[I", .methodLink RX7 130 yX7_isHop, .instanceMethod yX7_isHop, .selects RX7 yX7_isHop yX7_isHop, .initialized RX7, .code yX7_isHop cX7_isHop 2 (some .boolean), .fieldLink RX7 124 "HopCreditsModel" "hops" "I", .methodLink RX7 60 yX7_in, .static yX7_in, .code yX7_in cX7_in 3 (some .boolean), .methodLink RX7 223 yX7_refuses, .instanceMethod yX7_refuses, .selects RX7 yX7_refuses yX7_refuses, .code yX7_refuses cX7_refuses 2 (some .int), .fieldLink RX7 25 "HopCreditsModel" "refused" "[I"] ++ wsX70)
def wsX7_source : List Cond := .code yX7_source cX7_source 6 (some .int) :: ([.fieldLink RX7 49 "HopCreditsModel" "thrown" "I", .fieldLink RX7 22 "HopCreditsModel" "now" "[I", .methodLink RX7 133 yX7_isCircuit, .instanceMethod yX7_isCircuit, .selects RX7 yX7_isCircuit yX7_isCircuit, .initialized RX7, .code yX7_isCircuit cX7_isCircuit 2 (some .boolean), .fieldLink RX7 127 "HopCreditsModel" "circuits" "I", .methodLink RX7 60 yX7_in, .static yX7_in, .code yX7_in cX7_in 3 (some .boolean), .methodLink RX7 223 yX7_refuses, .instanceMethod yX7_refuses, .selects RX7 yX7_refuses yX7_refuses, .code yX7_refuses cX7_refuses 2 (some .int), .fieldLink RX7 25 "HopCreditsModel" "refused" "[I", .methodLink RX7 147 yX7_circuitAt, .static yX7_circuitAt, .code yX7_circuitAt cX7_circuitAt 1 (some .int)] ++ wsX70)
def wsX7_takes : List Cond := .code yX7_takes cX7_takes 4 (some .int) :: ([.fieldLink RX7 49 "HopCreditsModel" "thrown" "I", .fieldLink RX7 22 "HopCreditsModel" "now" "[I", .methodLink RX7 133 yX7_isCircuit, .instanceMethod yX7_isCircuit, .selects RX7 yX7_isCircuit yX7_isCircuit, .initialized RX7, .code yX7_isCircuit cX7_isCircuit 2 (some .boolean), .fieldLink RX7 127 "HopCreditsModel" "circuits" "I", .methodLink RX7 60 yX7_in, .static yX7_in, .code yX7_in cX7_in 3 (some .boolean), .methodLink RX7 223 yX7_refuses, .instanceMethod yX7_refuses, .selects RX7 yX7_refuses yX7_refuses, .code yX7_refuses cX7_refuses 2 (some .int), .fieldLink RX7 25 "HopCreditsModel" "refused" "[I", .methodLink RX7 147 yX7_circuitAt, .static yX7_circuitAt, .code yX7_circuitAt cX7_circuitAt 1 (some .int)] ++ wsX70)
def wsX7_whyZone_r1 : List Cond := [Cond.fieldLink RX7 28 "HopCreditsModel" "rule" "[I", Cond.fieldLink RX7 22 "HopCreditsModel" "now" "[I", Cond.methodLink RX7 229 yX7_isLane, Cond.instanceMethod yX7_isLane, Cond.selects RX7 yX7_isLane yX7_isLane, Cond.initialized RX7, Cond.code yX7_isLane cX7_isLane 3 (some .boolean), Cond.methodLink RX7 130 yX7_isHop, Cond.instanceMethod yX7_isHop, Cond.selects RX7 yX7_isHop yX7_isHop, Cond.code yX7_isHop cX7_isHop 2 (some .boolean), Cond.fieldLink RX7 124 "HopCreditsModel" "hops" "I", Cond.methodLink RX7 60 yX7_in, Cond.static yX7_in, Cond.code yX7_in cX7_in 3 (some .boolean), Cond.methodLink RX7 133 yX7_isCircuit, Cond.instanceMethod yX7_isCircuit, Cond.selects RX7 yX7_isCircuit yX7_isCircuit, Cond.code yX7_isCircuit cX7_isCircuit 2 (some .boolean), Cond.fieldLink RX7 127 "HopCreditsModel" "circuits" "I", Cond.methodLink RX7 151 yX7_pool, Cond.instanceMethod yX7_pool, Cond.selects RX7 yX7_pool yX7_pool, Cond.code yX7_pool cX7_pool 2 (some .int)]
def wsX7_whyZone_r2 : List Cond := [Cond.fieldLink RX7 31 "HopCreditsModel" "hop" "[I", Cond.methodLink RX7 163 yX7_lane, Cond.static yX7_lane, Cond.code yX7_lane cX7_lane 2 (some .int), Cond.methodLink RX7 172 yX7_leftFor, Cond.instanceMethod yX7_leftFor, Cond.selects RX7 yX7_leftFor yX7_leftFor, Cond.code yX7_leftFor cX7_leftFor 5 (some .int), Cond.methodLink RX7 154 Lib.Math.max.name, Cond.static Lib.Math.max.name, Cond.initialized "java/lang/Math", Cond.code Lib.Math.max.name Lib.Math.max.code 2 (some .int), Cond.methodLink RX7 169 yX7_outOf, Cond.instanceMethod yX7_outOf, Cond.selects RX7 yX7_outOf yX7_outOf, Cond.code yX7_outOf cX7_outOf 3 (some .int), Cond.methodLink RX7 166 yX7_less, Cond.static yX7_less, Cond.code yX7_less cX7_less 2 (some .int)]
def wsX7_whyZone : List Cond := .code yX7_whyZone cX7_whyZone 5 (some .int) :: ((wsX7_whyZone_r1 ++ wsX7_whyZone_r2) ++ wsX70)
def wsX7_zone_r1 : List Cond := [Cond.fieldLink RX7 49 "HopCreditsModel" "thrown" "I", Cond.fieldLink RX7 22 "HopCreditsModel" "now" "[I", Cond.methodLink RX7 232 yX7_whyZone, Cond.instanceMethod yX7_whyZone, Cond.selects RX7 yX7_whyZone yX7_whyZone, Cond.initialized RX7, Cond.code yX7_whyZone cX7_whyZone 5 (some .int), Cond.fieldLink RX7 28 "HopCreditsModel" "rule" "[I", Cond.methodLink RX7 229 yX7_isLane, Cond.instanceMethod yX7_isLane, Cond.selects RX7 yX7_isLane yX7_isLane, Cond.code yX7_isLane cX7_isLane 3 (some .boolean), Cond.methodLink RX7 130 yX7_isHop, Cond.instanceMethod yX7_isHop, Cond.selects RX7 yX7_isHop yX7_isHop, Cond.code yX7_isHop cX7_isHop 2 (some .boolean), Cond.fieldLink RX7 124 "HopCreditsModel" "hops" "I", Cond.methodLink RX7 60 yX7_in, Cond.static yX7_in, Cond.code yX7_in cX7_in 3 (some .boolean), Cond.methodLink RX7 133 yX7_isCircuit, Cond.instanceMethod yX7_isCircuit, Cond.selects RX7 yX7_isCircuit yX7_isCircuit, Cond.code yX7_isCircuit cX7_isCircuit 2 (some .boolean)]
def wsX7_zone_r2 : List Cond := [Cond.fieldLink RX7 127 "HopCreditsModel" "circuits" "I", Cond.methodLink RX7 151 yX7_pool, Cond.instanceMethod yX7_pool, Cond.selects RX7 yX7_pool yX7_pool, Cond.code yX7_pool cX7_pool 2 (some .int), Cond.fieldLink RX7 31 "HopCreditsModel" "hop" "[I", Cond.methodLink RX7 163 yX7_lane, Cond.static yX7_lane, Cond.code yX7_lane cX7_lane 2 (some .int), Cond.methodLink RX7 172 yX7_leftFor, Cond.instanceMethod yX7_leftFor, Cond.selects RX7 yX7_leftFor yX7_leftFor, Cond.code yX7_leftFor cX7_leftFor 5 (some .int), Cond.methodLink RX7 154 Lib.Math.max.name, Cond.static Lib.Math.max.name, Cond.initialized "java/lang/Math", Cond.code Lib.Math.max.name Lib.Math.max.code 2 (some .int), Cond.methodLink RX7 169 yX7_outOf, Cond.instanceMethod yX7_outOf, Cond.selects RX7 yX7_outOf yX7_outOf, Cond.code yX7_outOf cX7_outOf 3 (some .int), Cond.methodLink RX7 166 yX7_less, Cond.static yX7_less, Cond.code yX7_less cX7_less 2 (some .int)]
def wsX7_zone_r3 : List Cond := [Cond.methodLink RX7 223 yX7_refuses, Cond.instanceMethod yX7_refuses, Cond.selects RX7 yX7_refuses yX7_refuses, Cond.code yX7_refuses cX7_refuses 2 (some .int), Cond.fieldLink RX7 25 "HopCreditsModel" "refused" "[I"]
def wsX7_zone : List Cond := .code yX7_zone cX7_zone 6 (some .int) :: ((wsX7_zone_r1 ++ (wsX7_zone_r2 ++ wsX7_zone_r3)) ++ wsX70)
def wsX7_probe_r1 : List Cond := [Cond.fieldLink RX7 49 "HopCreditsModel" "thrown" "I", Cond.methodLink RX7 229 yX7_isLane, Cond.instanceMethod yX7_isLane, Cond.selects RX7 yX7_isLane yX7_isLane, Cond.initialized RX7, Cond.code yX7_isLane cX7_isLane 3 (some .boolean), Cond.methodLink RX7 130 yX7_isHop, Cond.instanceMethod yX7_isHop, Cond.selects RX7 yX7_isHop yX7_isHop, Cond.code yX7_isHop cX7_isHop 2 (some .boolean), Cond.fieldLink RX7 124 "HopCreditsModel" "hops" "I", Cond.methodLink RX7 60 yX7_in, Cond.static yX7_in, Cond.code yX7_in cX7_in 3 (some .boolean), Cond.methodLink RX7 133 yX7_isCircuit, Cond.instanceMethod yX7_isCircuit, Cond.selects RX7 yX7_isCircuit yX7_isCircuit, Cond.code yX7_isCircuit cX7_isCircuit 2 (some .boolean), Cond.fieldLink RX7 127 "HopCreditsModel" "circuits" "I", Cond.methodLink RX7 223 yX7_refuses, Cond.instanceMethod yX7_refuses, Cond.selects RX7 yX7_refuses yX7_refuses, Cond.code yX7_refuses cX7_refuses 2 (some .int), Cond.fieldLink RX7 25 "HopCreditsModel" "refused" "[I"]
def wsX7_probe_r2 : List Cond := [Cond.methodLink RX7 199 yX7_probes, Cond.instanceMethod yX7_probes, Cond.selects RX7 yX7_probes yX7_probes, Cond.code yX7_probes cX7_probes 3 none, Cond.fieldLink RX7 22 "HopCreditsModel" "now" "[I", Cond.methodLink RX7 178 yX7_delay, Cond.instanceMethod yX7_delay, Cond.selects RX7 yX7_delay yX7_delay, Cond.code yX7_delay cX7_delay 2 (some .int), Cond.fieldLink RX7 31 "HopCreditsModel" "hop" "[I", Cond.methodLink RX7 140 yX7_wayAt, Cond.static yX7_wayAt, Cond.code yX7_wayAt cX7_wayAt 2 (some .int), Cond.methodLink RX7 163 yX7_lane, Cond.static yX7_lane, Cond.code yX7_lane cX7_lane 2 (some .int), Cond.methodLink RX7 169 yX7_outOf, Cond.instanceMethod yX7_outOf, Cond.selects RX7 yX7_outOf yX7_outOf, Cond.code yX7_outOf cX7_outOf 3 (some .int), Cond.methodLink RX7 166 yX7_less, Cond.static yX7_less, Cond.code yX7_less cX7_less 2 (some .int)]
def wsX7_probe : List Cond := .code yX7_probe cX7_probe 3 (some .int) :: ((wsX7_probe_r1 ++ wsX7_probe_r2) ++ wsX70)
def wsX7_status : List Cond := .code yX7_status cX7_status 2 (some .int) :: ([.fieldLink RX7 49 "HopCreditsModel" "thrown" "I", .fieldLink RX7 25 "HopCreditsModel" "refused" "[I", .methodLink RX7 60 yX7_in, .static yX7_in, .initialized RX7, .code yX7_in cX7_in 3 (some .boolean)] ++ wsX70)
def wsX7_rule : List Cond := .code yX7_rule cX7_rule 2 (some .int) :: ([.fieldLink RX7 49 "HopCreditsModel" "thrown" "I", .constant RX7 236 (-1000000), .fieldLink RX7 124 "HopCreditsModel" "hops" "I", .fieldLink RX7 127 "HopCreditsModel" "circuits" "I", .fieldLink RX7 22 "HopCreditsModel" "now" "[I", .fieldLink RX7 28 "HopCreditsModel" "rule" "[I", .methodLink RX7 136 yX7_isNet, .instanceMethod yX7_isNet, .selects RX7 yX7_isNet yX7_isNet, .initialized RX7, .code yX7_isNet cX7_isNet 1 (some .boolean), .methodLink RX7 60 yX7_in, .static yX7_in, .code yX7_in cX7_in 3 (some .boolean)] ++ wsX70)
def wsX7_hop : List Cond := .code yX7_hop cX7_hop 3 (some .int) :: ([.fieldLink RX7 49 "HopCreditsModel" "thrown" "I", .fieldLink RX7 22 "HopCreditsModel" "now" "[I", .fieldLink RX7 31 "HopCreditsModel" "hop" "[I", .methodLink RX7 130 yX7_isHop, .instanceMethod yX7_isHop, .selects RX7 yX7_isHop yX7_isHop, .initialized RX7, .code yX7_isHop cX7_isHop 2 (some .boolean), .fieldLink RX7 124 "HopCreditsModel" "hops" "I", .methodLink RX7 60 yX7_in, .static yX7_in, .code yX7_in cX7_in 3 (some .boolean), .methodLink RX7 237 yX7_cellsOn, .instanceMethod yX7_cellsOn, .selects RX7 yX7_cellsOn yX7_cellsOn, .code yX7_cellsOn cX7_cellsOn 6 (some .int), .methodLink RX7 140 yX7_wayAt, .static yX7_wayAt, .code yX7_wayAt cX7_wayAt 2 (some .int), .methodLink RX7 240 yX7_toldOn, .instanceMethod yX7_toldOn, .selects RX7 yX7_toldOn yX7_toldOn, .code yX7_toldOn cX7_toldOn 7 (some .int), .fieldLink RX7 127 "HopCreditsModel" "circuits" "I"] ++ wsX70)
def wsX7_circuit : List Cond := .code yX7_circuit cX7_circuit 3 (some .int) :: ([.fieldLink RX7 49 "HopCreditsModel" "thrown" "I", .fieldLink RX7 22 "HopCreditsModel" "now" "[I", .methodLink RX7 133 yX7_isCircuit, .instanceMethod yX7_isCircuit, .selects RX7 yX7_isCircuit yX7_isCircuit, .initialized RX7, .code yX7_isCircuit cX7_isCircuit 2 (some .boolean), .fieldLink RX7 127 "HopCreditsModel" "circuits" "I", .methodLink RX7 60 yX7_in, .static yX7_in, .code yX7_in cX7_in 3 (some .boolean), .methodLink RX7 244 yX7_anywhere, .instanceMethod yX7_anywhere, .selects RX7 yX7_anywhere yX7_anywhere, .code yX7_anywhere cX7_anywhere 2 (some .int), .methodLink RX7 147 yX7_circuitAt, .static yX7_circuitAt, .code yX7_circuitAt cX7_circuitAt 1 (some .int)] ++ wsX70)
def wsX7_lane__r1 : List Cond := [Cond.fieldLink RX7 49 "HopCreditsModel" "thrown" "I", Cond.methodLink RX7 229 yX7_isLane, Cond.instanceMethod yX7_isLane, Cond.selects RX7 yX7_isLane yX7_isLane, Cond.initialized RX7, Cond.code yX7_isLane cX7_isLane 3 (some .boolean), Cond.methodLink RX7 130 yX7_isHop, Cond.instanceMethod yX7_isHop, Cond.selects RX7 yX7_isHop yX7_isHop, Cond.code yX7_isHop cX7_isHop 2 (some .boolean), Cond.fieldLink RX7 124 "HopCreditsModel" "hops" "I", Cond.methodLink RX7 60 yX7_in, Cond.static yX7_in, Cond.code yX7_in cX7_in 3 (some .boolean), Cond.methodLink RX7 133 yX7_isCircuit, Cond.instanceMethod yX7_isCircuit, Cond.selects RX7 yX7_isCircuit yX7_isCircuit, Cond.code yX7_isCircuit cX7_isCircuit 2 (some .boolean), Cond.fieldLink RX7 127 "HopCreditsModel" "circuits" "I", Cond.methodLink RX7 247 yX7_laneNow, Cond.instanceMethod yX7_laneNow, Cond.selects RX7 yX7_laneNow yX7_laneNow, Cond.code yX7_laneNow cX7_laneNow 4 (some .int), Cond.fieldLink RX7 22 "HopCreditsModel" "now" "[I"]
def wsX7_lane__r2 : List Cond := [Cond.methodLink RX7 169 yX7_outOf, Cond.instanceMethod yX7_outOf, Cond.selects RX7 yX7_outOf yX7_outOf, Cond.code yX7_outOf cX7_outOf 3 (some .int), Cond.methodLink RX7 163 yX7_lane, Cond.static yX7_lane, Cond.code yX7_lane cX7_lane 2 (some .int), Cond.methodLink RX7 166 yX7_less, Cond.static yX7_less, Cond.code yX7_less cX7_less 2 (some .int), Cond.methodLink RX7 190 yX7_credit, Cond.instanceMethod yX7_credit, Cond.selects RX7 yX7_credit yX7_credit, Cond.code yX7_credit cX7_credit 3 (some .int), Cond.methodLink RX7 154 Lib.Math.max.name, Cond.static Lib.Math.max.name, Cond.initialized "java/lang/Math", Cond.code Lib.Math.max.name Lib.Math.max.code 2 (some .int), Cond.methodLink RX7 237 yX7_cellsOn, Cond.instanceMethod yX7_cellsOn, Cond.selects RX7 yX7_cellsOn yX7_cellsOn, Cond.code yX7_cellsOn cX7_cellsOn 6 (some .int), Cond.methodLink RX7 140 yX7_wayAt, Cond.static yX7_wayAt]
def wsX7_lane__r3 : List Cond := [Cond.code yX7_wayAt cX7_wayAt 2 (some .int)]
def wsX7_lane_ : List Cond := .code yX7_lane_ cX7_lane_ 4 (some .int) :: ((wsX7_lane__r1 ++ (wsX7_lane__r2 ++ wsX7_lane__r3)) ++ wsX70)
def wsX7_buffer : List Cond := .code yX7_buffer cX7_buffer 3 (some .int) :: ([.fieldLink RX7 49 "HopCreditsModel" "thrown" "I", .fieldLink RX7 22 "HopCreditsModel" "now" "[I", .methodLink RX7 250 yX7_isNode, .instanceMethod yX7_isNode, .selects RX7 yX7_isNode yX7_isNode, .initialized RX7, .code yX7_isNode cX7_isNode 2 (some .boolean), .fieldLink RX7 124 "HopCreditsModel" "hops" "I", .methodLink RX7 136 yX7_isNet, .instanceMethod yX7_isNet, .selects RX7 yX7_isNet yX7_isNet, .code yX7_isNet cX7_isNet 1 (some .boolean), .methodLink RX7 60 yX7_in, .static yX7_in, .code yX7_in cX7_in 3 (some .boolean), .methodLink RX7 133 yX7_isCircuit, .instanceMethod yX7_isCircuit, .selects RX7 yX7_isCircuit yX7_isCircuit, .code yX7_isCircuit cX7_isCircuit 2 (some .boolean), .fieldLink RX7 127 "HopCreditsModel" "circuits" "I", .methodLink RX7 184 yX7_bufferAt, .static yX7_bufferAt, .code yX7_bufferAt cX7_bufferAt 2 (some .int)] ++ wsX70)
def wsX7_way : List Cond := .code yX7_way cX7_way 5 (some .int) :: ([.fieldLink RX7 49 "HopCreditsModel" "thrown" "I", .fieldLink RX7 22 "HopCreditsModel" "now" "[I", .methodLink RX7 130 yX7_isHop, .instanceMethod yX7_isHop, .selects RX7 yX7_isHop yX7_isHop, .initialized RX7, .code yX7_isHop cX7_isHop 2 (some .boolean), .fieldLink RX7 124 "HopCreditsModel" "hops" "I", .methodLink RX7 60 yX7_in, .static yX7_in, .code yX7_in cX7_in 3 (some .boolean), .methodLink RX7 140 yX7_wayAt, .static yX7_wayAt, .code yX7_wayAt cX7_wayAt 2 (some .int)] ++ wsX70)
def wsX7_isSpan : List Cond := .code yX7_isSpan cX7_isSpan 2 (some .boolean) :: ([.methodLink RX7 60 yX7_in, .static yX7_in, .initialized RX7, .code yX7_in cX7_in 3 (some .boolean)])
def wsX7_laneAhead_r1 : List Cond := [Cond.fieldLink RX7 49 "HopCreditsModel" "thrown" "I", Cond.methodLink RX7 229 yX7_isLane, Cond.instanceMethod yX7_isLane, Cond.selects RX7 yX7_isLane yX7_isLane, Cond.initialized RX7, Cond.code yX7_isLane cX7_isLane 3 (some .boolean), Cond.methodLink RX7 130 yX7_isHop, Cond.instanceMethod yX7_isHop, Cond.selects RX7 yX7_isHop yX7_isHop, Cond.code yX7_isHop cX7_isHop 2 (some .boolean), Cond.fieldLink RX7 124 "HopCreditsModel" "hops" "I", Cond.methodLink RX7 60 yX7_in, Cond.static yX7_in, Cond.code yX7_in cX7_in 3 (some .boolean), Cond.methodLink RX7 133 yX7_isCircuit, Cond.instanceMethod yX7_isCircuit, Cond.selects RX7 yX7_isCircuit yX7_isCircuit, Cond.code yX7_isCircuit cX7_isCircuit 2 (some .boolean), Cond.fieldLink RX7 127 "HopCreditsModel" "circuits" "I", Cond.methodLink RX7 253 yX7_isSpan, Cond.static yX7_isSpan, Cond.code yX7_isSpan cX7_isSpan 2 (some .boolean), Cond.methodLink RX7 256 yX7_putAside, Cond.instanceMethod yX7_putAside]
def wsX7_laneAhead_r2 : List Cond := [Cond.selects RX7 yX7_putAside yX7_putAside, Cond.code yX7_putAside cX7_putAside 2 none, Cond.fieldLink RX7 37 "HopCreditsModel" "aside" "[I", Cond.fieldLink RX7 22 "HopCreditsModel" "now" "[I", Cond.methodLink RX7 259 yX7_goesOn, Cond.instanceMethod yX7_goesOn, Cond.selects RX7 yX7_goesOn yX7_goesOn, Cond.code yX7_goesOn cX7_goesOn 3 none, Cond.methodLink RX7 226 yX7_ticks, Cond.instanceMethod yX7_ticks, Cond.selects RX7 yX7_ticks yX7_ticks, Cond.code yX7_ticks cX7_ticks 2 none, Cond.fieldLink RX7 28 "HopCreditsModel" "rule" "[I", Cond.methodLink RX7 205 yX7_arrives, Cond.instanceMethod yX7_arrives, Cond.selects RX7 yX7_arrives yX7_arrives, Cond.code yX7_arrives cX7_arrives 6 none, Cond.methodLink RX7 140 yX7_wayAt, Cond.static yX7_wayAt, Cond.code yX7_wayAt cX7_wayAt 2 (some .int), Cond.methodLink RX7 184 yX7_bufferAt, Cond.static yX7_bufferAt, Cond.code yX7_bufferAt cX7_bufferAt 2 (some .int), Cond.methodLink RX7 163 yX7_lane]
def wsX7_laneAhead_r3 : List Cond := [Cond.static yX7_lane, Cond.code yX7_lane cX7_lane 2 (some .int), Cond.methodLink RX7 166 yX7_less, Cond.static yX7_less, Cond.code yX7_less cX7_less 2 (some .int), Cond.methodLink RX7 159 yX7_clearsWay, Cond.instanceMethod yX7_clearsWay, Cond.selects RX7 yX7_clearsWay yX7_clearsWay, Cond.code yX7_clearsWay cX7_clearsWay 5 none, Cond.methodLink RX7 95 yX7_has, Cond.static yX7_has, Cond.code yX7_has cX7_has 2 (some .boolean), Cond.methodLink RX7 181 yX7_updates, Cond.instanceMethod yX7_updates, Cond.selects RX7 yX7_updates yX7_updates, Cond.code yX7_updates cX7_updates 3 none, Cond.methodLink RX7 178 yX7_delay, Cond.instanceMethod yX7_delay, Cond.selects RX7 yX7_delay yX7_delay, Cond.code yX7_delay cX7_delay 2 (some .int), Cond.fieldLink RX7 31 "HopCreditsModel" "hop" "[I", Cond.methodLink RX7 208 yX7_comes, Cond.instanceMethod yX7_comes, Cond.selects RX7 yX7_comes yX7_comes]
def wsX7_laneAhead_r4 : List Cond := [Cond.code yX7_comes cX7_comes 5 none, Cond.methodLink RX7 147 yX7_circuitAt, Cond.static yX7_circuitAt, Cond.code yX7_circuitAt cX7_circuitAt 1 (some .int), Cond.methodLink RX7 211 yX7_isTaken, Cond.instanceMethod yX7_isTaken, Cond.selects RX7 yX7_isTaken yX7_isTaken, Cond.code yX7_isTaken cX7_isTaken 4 none, Cond.methodLink RX7 154 Lib.Math.max.name, Cond.static Lib.Math.max.name, Cond.initialized "java/lang/Math", Cond.code Lib.Math.max.name Lib.Math.max.code 2 (some .int), Cond.methodLink RX7 187 yX7_goesFrom, Cond.instanceMethod yX7_goesFrom, Cond.selects RX7 yX7_goesFrom yX7_goesFrom, Cond.code yX7_goesFrom cX7_goesFrom 4 none, Cond.methodLink RX7 214 yX7_sends, Cond.instanceMethod yX7_sends, Cond.selects RX7 yX7_sends yX7_sends, Cond.code yX7_sends cX7_sends 4 none, Cond.methodLink RX7 193 yX7_sender, Cond.instanceMethod yX7_sender, Cond.selects RX7 yX7_sender yX7_sender, Cond.code yX7_sender cX7_sender 5 (some .int)]
def wsX7_laneAhead_r5 : List Cond := [Cond.methodLink RX7 190 yX7_credit, Cond.instanceMethod yX7_credit, Cond.selects RX7 yX7_credit yX7_credit, Cond.code yX7_credit cX7_credit 3 (some .int), Cond.methodLink RX7 169 yX7_outOf, Cond.instanceMethod yX7_outOf, Cond.selects RX7 yX7_outOf yX7_outOf, Cond.code yX7_outOf cX7_outOf 3 (some .int), Cond.methodLink RX7 217 yX7_waits, Cond.instanceMethod yX7_waits, Cond.selects RX7 yX7_waits yX7_waits, Cond.code yX7_waits cX7_waits 4 none, Cond.methodLink RX7 196 yX7_isHeld, Cond.instanceMethod yX7_isHeld, Cond.selects RX7 yX7_isHeld yX7_isHeld, Cond.code yX7_isHeld cX7_isHeld 3 (some .boolean), Cond.methodLink RX7 199 yX7_probes, Cond.instanceMethod yX7_probes, Cond.selects RX7 yX7_probes yX7_probes, Cond.code yX7_probes cX7_probes 3 none, Cond.methodLink RX7 220 yX7_adapts, Cond.instanceMethod yX7_adapts, Cond.selects RX7 yX7_adapts yX7_adapts, Cond.code yX7_adapts cX7_adapts 4 none]
def wsX7_laneAhead_r6 : List Cond := [Cond.fieldLink RX7 34 "HopCreditsModel" "aims" "[I", Cond.methodLink RX7 175 Lib.Math.min.name, Cond.static Lib.Math.min.name, Cond.code Lib.Math.min.name Lib.Math.min.code 2 (some .int), Cond.methodLink RX7 202 yX7_aimOf, Cond.instanceMethod yX7_aimOf, Cond.selects RX7 yX7_aimOf yX7_aimOf, Cond.code yX7_aimOf cX7_aimOf 5 (some .int), Cond.methodLink RX7 151 yX7_pool, Cond.instanceMethod yX7_pool, Cond.selects RX7 yX7_pool yX7_pool, Cond.code yX7_pool cX7_pool 2 (some .int), Cond.methodLink RX7 172 yX7_leftFor, Cond.instanceMethod yX7_leftFor, Cond.selects RX7 yX7_leftFor yX7_leftFor, Cond.code yX7_leftFor cX7_leftFor 5 (some .int), Cond.methodLink RX7 247 yX7_laneNow, Cond.instanceMethod yX7_laneNow, Cond.selects RX7 yX7_laneNow yX7_laneNow, Cond.code yX7_laneNow cX7_laneNow 4 (some .int), Cond.methodLink RX7 237 yX7_cellsOn, Cond.instanceMethod yX7_cellsOn, Cond.selects RX7 yX7_cellsOn yX7_cellsOn, Cond.code yX7_cellsOn cX7_cellsOn 6 (some .int)]
def wsX7_laneAhead_r7 : List Cond := [Cond.methodLink RX7 262 yX7_bringBack, Cond.instanceMethod yX7_bringBack, Cond.selects RX7 yX7_bringBack yX7_bringBack, Cond.code yX7_bringBack cX7_bringBack 2 none]
def wsX7_laneAhead : List Cond := .code yX7_laneAhead cX7_laneAhead 6 (some .int) :: ((wsX7_laneAhead_r1 ++ (wsX7_laneAhead_r2 ++ (wsX7_laneAhead_r3 ++ (wsX7_laneAhead_r4 ++ (wsX7_laneAhead_r5 ++ (wsX7_laneAhead_r6 ++ wsX7_laneAhead_r7)))))) ++ wsX70)
def wsX7_bufferAhead_r1 : List Cond := [Cond.fieldLink RX7 49 "HopCreditsModel" "thrown" "I", Cond.fieldLink RX7 22 "HopCreditsModel" "now" "[I", Cond.methodLink RX7 250 yX7_isNode, Cond.instanceMethod yX7_isNode, Cond.selects RX7 yX7_isNode yX7_isNode, Cond.initialized RX7, Cond.code yX7_isNode cX7_isNode 2 (some .boolean), Cond.fieldLink RX7 124 "HopCreditsModel" "hops" "I", Cond.methodLink RX7 136 yX7_isNet, Cond.instanceMethod yX7_isNet, Cond.selects RX7 yX7_isNet yX7_isNet, Cond.code yX7_isNet cX7_isNet 1 (some .boolean), Cond.methodLink RX7 60 yX7_in, Cond.static yX7_in, Cond.code yX7_in cX7_in 3 (some .boolean), Cond.methodLink RX7 133 yX7_isCircuit, Cond.instanceMethod yX7_isCircuit, Cond.selects RX7 yX7_isCircuit yX7_isCircuit, Cond.code yX7_isCircuit cX7_isCircuit 2 (some .boolean), Cond.fieldLink RX7 127 "HopCreditsModel" "circuits" "I", Cond.methodLink RX7 253 yX7_isSpan, Cond.static yX7_isSpan, Cond.code yX7_isSpan cX7_isSpan 2 (some .boolean), Cond.methodLink RX7 256 yX7_putAside]
def wsX7_bufferAhead_r2 : List Cond := [Cond.instanceMethod yX7_putAside, Cond.selects RX7 yX7_putAside yX7_putAside, Cond.code yX7_putAside cX7_putAside 2 none, Cond.fieldLink RX7 37 "HopCreditsModel" "aside" "[I", Cond.methodLink RX7 259 yX7_goesOn, Cond.instanceMethod yX7_goesOn, Cond.selects RX7 yX7_goesOn yX7_goesOn, Cond.code yX7_goesOn cX7_goesOn 3 none, Cond.methodLink RX7 226 yX7_ticks, Cond.instanceMethod yX7_ticks, Cond.selects RX7 yX7_ticks yX7_ticks, Cond.code yX7_ticks cX7_ticks 2 none, Cond.fieldLink RX7 28 "HopCreditsModel" "rule" "[I", Cond.methodLink RX7 205 yX7_arrives, Cond.instanceMethod yX7_arrives, Cond.selects RX7 yX7_arrives yX7_arrives, Cond.code yX7_arrives cX7_arrives 6 none, Cond.methodLink RX7 140 yX7_wayAt, Cond.static yX7_wayAt, Cond.code yX7_wayAt cX7_wayAt 2 (some .int), Cond.methodLink RX7 184 yX7_bufferAt, Cond.static yX7_bufferAt, Cond.code yX7_bufferAt cX7_bufferAt 2 (some .int), Cond.methodLink RX7 163 yX7_lane]
def wsX7_bufferAhead_r3 : List Cond := [Cond.static yX7_lane, Cond.code yX7_lane cX7_lane 2 (some .int), Cond.methodLink RX7 166 yX7_less, Cond.static yX7_less, Cond.code yX7_less cX7_less 2 (some .int), Cond.methodLink RX7 159 yX7_clearsWay, Cond.instanceMethod yX7_clearsWay, Cond.selects RX7 yX7_clearsWay yX7_clearsWay, Cond.code yX7_clearsWay cX7_clearsWay 5 none, Cond.methodLink RX7 95 yX7_has, Cond.static yX7_has, Cond.code yX7_has cX7_has 2 (some .boolean), Cond.methodLink RX7 181 yX7_updates, Cond.instanceMethod yX7_updates, Cond.selects RX7 yX7_updates yX7_updates, Cond.code yX7_updates cX7_updates 3 none, Cond.methodLink RX7 178 yX7_delay, Cond.instanceMethod yX7_delay, Cond.selects RX7 yX7_delay yX7_delay, Cond.code yX7_delay cX7_delay 2 (some .int), Cond.fieldLink RX7 31 "HopCreditsModel" "hop" "[I", Cond.methodLink RX7 208 yX7_comes, Cond.instanceMethod yX7_comes, Cond.selects RX7 yX7_comes yX7_comes]
def wsX7_bufferAhead_r4 : List Cond := [Cond.code yX7_comes cX7_comes 5 none, Cond.methodLink RX7 147 yX7_circuitAt, Cond.static yX7_circuitAt, Cond.code yX7_circuitAt cX7_circuitAt 1 (some .int), Cond.methodLink RX7 211 yX7_isTaken, Cond.instanceMethod yX7_isTaken, Cond.selects RX7 yX7_isTaken yX7_isTaken, Cond.code yX7_isTaken cX7_isTaken 4 none, Cond.methodLink RX7 154 Lib.Math.max.name, Cond.static Lib.Math.max.name, Cond.initialized "java/lang/Math", Cond.code Lib.Math.max.name Lib.Math.max.code 2 (some .int), Cond.methodLink RX7 187 yX7_goesFrom, Cond.instanceMethod yX7_goesFrom, Cond.selects RX7 yX7_goesFrom yX7_goesFrom, Cond.code yX7_goesFrom cX7_goesFrom 4 none, Cond.methodLink RX7 214 yX7_sends, Cond.instanceMethod yX7_sends, Cond.selects RX7 yX7_sends yX7_sends, Cond.code yX7_sends cX7_sends 4 none, Cond.methodLink RX7 193 yX7_sender, Cond.instanceMethod yX7_sender, Cond.selects RX7 yX7_sender yX7_sender, Cond.code yX7_sender cX7_sender 5 (some .int)]
def wsX7_bufferAhead_r5 : List Cond := [Cond.methodLink RX7 190 yX7_credit, Cond.instanceMethod yX7_credit, Cond.selects RX7 yX7_credit yX7_credit, Cond.code yX7_credit cX7_credit 3 (some .int), Cond.methodLink RX7 169 yX7_outOf, Cond.instanceMethod yX7_outOf, Cond.selects RX7 yX7_outOf yX7_outOf, Cond.code yX7_outOf cX7_outOf 3 (some .int), Cond.methodLink RX7 217 yX7_waits, Cond.instanceMethod yX7_waits, Cond.selects RX7 yX7_waits yX7_waits, Cond.code yX7_waits cX7_waits 4 none, Cond.methodLink RX7 196 yX7_isHeld, Cond.instanceMethod yX7_isHeld, Cond.selects RX7 yX7_isHeld yX7_isHeld, Cond.code yX7_isHeld cX7_isHeld 3 (some .boolean), Cond.methodLink RX7 199 yX7_probes, Cond.instanceMethod yX7_probes, Cond.selects RX7 yX7_probes yX7_probes, Cond.code yX7_probes cX7_probes 3 none, Cond.methodLink RX7 220 yX7_adapts, Cond.instanceMethod yX7_adapts, Cond.selects RX7 yX7_adapts yX7_adapts, Cond.code yX7_adapts cX7_adapts 4 none]
def wsX7_bufferAhead_r6 : List Cond := [Cond.fieldLink RX7 34 "HopCreditsModel" "aims" "[I", Cond.methodLink RX7 175 Lib.Math.min.name, Cond.static Lib.Math.min.name, Cond.code Lib.Math.min.name Lib.Math.min.code 2 (some .int), Cond.methodLink RX7 202 yX7_aimOf, Cond.instanceMethod yX7_aimOf, Cond.selects RX7 yX7_aimOf yX7_aimOf, Cond.code yX7_aimOf cX7_aimOf 5 (some .int), Cond.methodLink RX7 151 yX7_pool, Cond.instanceMethod yX7_pool, Cond.selects RX7 yX7_pool yX7_pool, Cond.code yX7_pool cX7_pool 2 (some .int), Cond.methodLink RX7 172 yX7_leftFor, Cond.instanceMethod yX7_leftFor, Cond.selects RX7 yX7_leftFor yX7_leftFor, Cond.code yX7_leftFor cX7_leftFor 5 (some .int), Cond.methodLink RX7 262 yX7_bringBack, Cond.instanceMethod yX7_bringBack, Cond.selects RX7 yX7_bringBack yX7_bringBack, Cond.code yX7_bringBack cX7_bringBack 2 none]
def wsX7_bufferAhead : List Cond := .code yX7_bufferAhead cX7_bufferAhead 5 (some .int) :: ((wsX7_bufferAhead_r1 ++ (wsX7_bufferAhead_r2 ++ (wsX7_bufferAhead_r3 ++ (wsX7_bufferAhead_r4 ++ (wsX7_bufferAhead_r5 ++ wsX7_bufferAhead_r6))))) ++ wsX70)
def wsX7_delivered_r1 : List Cond := [Cond.fieldLink RX7 49 "HopCreditsModel" "thrown" "I", Cond.methodLink RX7 136 yX7_isNet, Cond.instanceMethod yX7_isNet, Cond.selects RX7 yX7_isNet yX7_isNet, Cond.initialized RX7, Cond.code yX7_isNet cX7_isNet 1 (some .boolean), Cond.fieldLink RX7 124 "HopCreditsModel" "hops" "I", Cond.methodLink RX7 133 yX7_isCircuit, Cond.instanceMethod yX7_isCircuit, Cond.selects RX7 yX7_isCircuit yX7_isCircuit, Cond.code yX7_isCircuit cX7_isCircuit 2 (some .boolean), Cond.fieldLink RX7 127 "HopCreditsModel" "circuits" "I", Cond.methodLink RX7 60 yX7_in, Cond.static yX7_in, Cond.code yX7_in cX7_in 3 (some .boolean), Cond.methodLink RX7 253 yX7_isSpan, Cond.static yX7_isSpan, Cond.code yX7_isSpan cX7_isSpan 2 (some .boolean), Cond.methodLink RX7 256 yX7_putAside, Cond.instanceMethod yX7_putAside, Cond.selects RX7 yX7_putAside yX7_putAside, Cond.code yX7_putAside cX7_putAside 2 none, Cond.fieldLink RX7 37 "HopCreditsModel" "aside" "[I", Cond.fieldLink RX7 22 "HopCreditsModel" "now" "[I"]
def wsX7_delivered_r2 : List Cond := [Cond.methodLink RX7 268 yX7_deliveredIn, Cond.instanceMethod yX7_deliveredIn, Cond.selects RX7 yX7_deliveredIn yX7_deliveredIn, Cond.code yX7_deliveredIn cX7_deliveredIn 5 (some .int), Cond.methodLink RX7 265 yX7_deliveredOf, Cond.instanceMethod yX7_deliveredOf, Cond.selects RX7 yX7_deliveredOf yX7_deliveredOf, Cond.code yX7_deliveredOf cX7_deliveredOf 4 (some .int), Cond.methodLink RX7 147 yX7_circuitAt, Cond.static yX7_circuitAt, Cond.code yX7_circuitAt cX7_circuitAt 1 (some .int), Cond.methodLink RX7 259 yX7_goesOn, Cond.instanceMethod yX7_goesOn, Cond.selects RX7 yX7_goesOn yX7_goesOn, Cond.code yX7_goesOn cX7_goesOn 3 none, Cond.methodLink RX7 226 yX7_ticks, Cond.instanceMethod yX7_ticks, Cond.selects RX7 yX7_ticks yX7_ticks, Cond.code yX7_ticks cX7_ticks 2 none, Cond.fieldLink RX7 28 "HopCreditsModel" "rule" "[I", Cond.methodLink RX7 205 yX7_arrives, Cond.instanceMethod yX7_arrives, Cond.selects RX7 yX7_arrives yX7_arrives, Cond.code yX7_arrives cX7_arrives 6 none]
def wsX7_delivered_r3 : List Cond := [Cond.methodLink RX7 140 yX7_wayAt, Cond.static yX7_wayAt, Cond.code yX7_wayAt cX7_wayAt 2 (some .int), Cond.methodLink RX7 184 yX7_bufferAt, Cond.static yX7_bufferAt, Cond.code yX7_bufferAt cX7_bufferAt 2 (some .int), Cond.methodLink RX7 163 yX7_lane, Cond.static yX7_lane, Cond.code yX7_lane cX7_lane 2 (some .int), Cond.methodLink RX7 166 yX7_less, Cond.static yX7_less, Cond.code yX7_less cX7_less 2 (some .int), Cond.methodLink RX7 159 yX7_clearsWay, Cond.instanceMethod yX7_clearsWay, Cond.selects RX7 yX7_clearsWay yX7_clearsWay, Cond.code yX7_clearsWay cX7_clearsWay 5 none, Cond.methodLink RX7 95 yX7_has, Cond.static yX7_has, Cond.code yX7_has cX7_has 2 (some .boolean), Cond.methodLink RX7 181 yX7_updates, Cond.instanceMethod yX7_updates, Cond.selects RX7 yX7_updates yX7_updates, Cond.code yX7_updates cX7_updates 3 none, Cond.methodLink RX7 178 yX7_delay]
def wsX7_delivered_r4 : List Cond := [Cond.instanceMethod yX7_delay, Cond.selects RX7 yX7_delay yX7_delay, Cond.code yX7_delay cX7_delay 2 (some .int), Cond.fieldLink RX7 31 "HopCreditsModel" "hop" "[I", Cond.methodLink RX7 208 yX7_comes, Cond.instanceMethod yX7_comes, Cond.selects RX7 yX7_comes yX7_comes, Cond.code yX7_comes cX7_comes 5 none, Cond.methodLink RX7 211 yX7_isTaken, Cond.instanceMethod yX7_isTaken, Cond.selects RX7 yX7_isTaken yX7_isTaken, Cond.code yX7_isTaken cX7_isTaken 4 none, Cond.methodLink RX7 154 Lib.Math.max.name, Cond.static Lib.Math.max.name, Cond.initialized "java/lang/Math", Cond.code Lib.Math.max.name Lib.Math.max.code 2 (some .int), Cond.methodLink RX7 187 yX7_goesFrom, Cond.instanceMethod yX7_goesFrom, Cond.selects RX7 yX7_goesFrom yX7_goesFrom, Cond.code yX7_goesFrom cX7_goesFrom 4 none, Cond.methodLink RX7 214 yX7_sends, Cond.instanceMethod yX7_sends, Cond.selects RX7 yX7_sends yX7_sends, Cond.code yX7_sends cX7_sends 4 none]
def wsX7_delivered_r5 : List Cond := [Cond.methodLink RX7 193 yX7_sender, Cond.instanceMethod yX7_sender, Cond.selects RX7 yX7_sender yX7_sender, Cond.code yX7_sender cX7_sender 5 (some .int), Cond.methodLink RX7 190 yX7_credit, Cond.instanceMethod yX7_credit, Cond.selects RX7 yX7_credit yX7_credit, Cond.code yX7_credit cX7_credit 3 (some .int), Cond.methodLink RX7 169 yX7_outOf, Cond.instanceMethod yX7_outOf, Cond.selects RX7 yX7_outOf yX7_outOf, Cond.code yX7_outOf cX7_outOf 3 (some .int), Cond.methodLink RX7 217 yX7_waits, Cond.instanceMethod yX7_waits, Cond.selects RX7 yX7_waits yX7_waits, Cond.code yX7_waits cX7_waits 4 none, Cond.methodLink RX7 196 yX7_isHeld, Cond.instanceMethod yX7_isHeld, Cond.selects RX7 yX7_isHeld yX7_isHeld, Cond.code yX7_isHeld cX7_isHeld 3 (some .boolean), Cond.methodLink RX7 199 yX7_probes, Cond.instanceMethod yX7_probes, Cond.selects RX7 yX7_probes yX7_probes, Cond.code yX7_probes cX7_probes 3 none]
def wsX7_delivered_r6 : List Cond := [Cond.methodLink RX7 220 yX7_adapts, Cond.instanceMethod yX7_adapts, Cond.selects RX7 yX7_adapts yX7_adapts, Cond.code yX7_adapts cX7_adapts 4 none, Cond.fieldLink RX7 34 "HopCreditsModel" "aims" "[I", Cond.methodLink RX7 175 Lib.Math.min.name, Cond.static Lib.Math.min.name, Cond.code Lib.Math.min.name Lib.Math.min.code 2 (some .int), Cond.methodLink RX7 202 yX7_aimOf, Cond.instanceMethod yX7_aimOf, Cond.selects RX7 yX7_aimOf yX7_aimOf, Cond.code yX7_aimOf cX7_aimOf 5 (some .int), Cond.methodLink RX7 151 yX7_pool, Cond.instanceMethod yX7_pool, Cond.selects RX7 yX7_pool yX7_pool, Cond.code yX7_pool cX7_pool 2 (some .int), Cond.methodLink RX7 172 yX7_leftFor, Cond.instanceMethod yX7_leftFor, Cond.selects RX7 yX7_leftFor yX7_leftFor, Cond.code yX7_leftFor cX7_leftFor 5 (some .int), Cond.methodLink RX7 262 yX7_bringBack, Cond.instanceMethod yX7_bringBack, Cond.selects RX7 yX7_bringBack yX7_bringBack, Cond.code yX7_bringBack cX7_bringBack 2 none]
def wsX7_delivered : List Cond := .code yX7_delivered cX7_delivered 3 (some .int) :: ((wsX7_delivered_r1 ++ (wsX7_delivered_r2 ++ (wsX7_delivered_r3 ++ (wsX7_delivered_r4 ++ (wsX7_delivered_r5 ++ wsX7_delivered_r6))))) ++ wsX70)
def wsX7_heldUp_r1 : List Cond := [Cond.fieldLink RX7 49 "HopCreditsModel" "thrown" "I", Cond.fieldLink RX7 22 "HopCreditsModel" "now" "[I", Cond.methodLink RX7 229 yX7_isLane, Cond.instanceMethod yX7_isLane, Cond.selects RX7 yX7_isLane yX7_isLane, Cond.initialized RX7, Cond.code yX7_isLane cX7_isLane 3 (some .boolean), Cond.methodLink RX7 130 yX7_isHop, Cond.instanceMethod yX7_isHop, Cond.selects RX7 yX7_isHop yX7_isHop, Cond.code yX7_isHop cX7_isHop 2 (some .boolean), Cond.fieldLink RX7 124 "HopCreditsModel" "hops" "I", Cond.methodLink RX7 60 yX7_in, Cond.static yX7_in, Cond.code yX7_in cX7_in 3 (some .boolean), Cond.methodLink RX7 133 yX7_isCircuit, Cond.instanceMethod yX7_isCircuit, Cond.selects RX7 yX7_isCircuit yX7_isCircuit, Cond.code yX7_isCircuit cX7_isCircuit 2 (some .boolean), Cond.fieldLink RX7 127 "HopCreditsModel" "circuits" "I", Cond.methodLink RX7 256 yX7_putAside, Cond.instanceMethod yX7_putAside, Cond.selects RX7 yX7_putAside yX7_putAside, Cond.code yX7_putAside cX7_putAside 2 none]
def wsX7_heldUp_r2 : List Cond := [Cond.fieldLink RX7 37 "HopCreditsModel" "aside" "[I", Cond.methodLink RX7 163 yX7_lane, Cond.static yX7_lane, Cond.code yX7_lane cX7_lane 2 (some .int), Cond.methodLink RX7 226 yX7_ticks, Cond.instanceMethod yX7_ticks, Cond.selects RX7 yX7_ticks yX7_ticks, Cond.code yX7_ticks cX7_ticks 2 none, Cond.fieldLink RX7 28 "HopCreditsModel" "rule" "[I", Cond.methodLink RX7 205 yX7_arrives, Cond.instanceMethod yX7_arrives, Cond.selects RX7 yX7_arrives yX7_arrives, Cond.code yX7_arrives cX7_arrives 6 none, Cond.methodLink RX7 140 yX7_wayAt, Cond.static yX7_wayAt, Cond.code yX7_wayAt cX7_wayAt 2 (some .int), Cond.methodLink RX7 184 yX7_bufferAt, Cond.static yX7_bufferAt, Cond.code yX7_bufferAt cX7_bufferAt 2 (some .int), Cond.methodLink RX7 166 yX7_less, Cond.static yX7_less, Cond.code yX7_less cX7_less 2 (some .int), Cond.methodLink RX7 159 yX7_clearsWay, Cond.instanceMethod yX7_clearsWay]
def wsX7_heldUp_r3 : List Cond := [Cond.selects RX7 yX7_clearsWay yX7_clearsWay, Cond.code yX7_clearsWay cX7_clearsWay 5 none, Cond.methodLink RX7 95 yX7_has, Cond.static yX7_has, Cond.code yX7_has cX7_has 2 (some .boolean), Cond.methodLink RX7 181 yX7_updates, Cond.instanceMethod yX7_updates, Cond.selects RX7 yX7_updates yX7_updates, Cond.code yX7_updates cX7_updates 3 none, Cond.methodLink RX7 178 yX7_delay, Cond.instanceMethod yX7_delay, Cond.selects RX7 yX7_delay yX7_delay, Cond.code yX7_delay cX7_delay 2 (some .int), Cond.fieldLink RX7 31 "HopCreditsModel" "hop" "[I", Cond.methodLink RX7 208 yX7_comes, Cond.instanceMethod yX7_comes, Cond.selects RX7 yX7_comes yX7_comes, Cond.code yX7_comes cX7_comes 5 none, Cond.methodLink RX7 147 yX7_circuitAt, Cond.static yX7_circuitAt, Cond.code yX7_circuitAt cX7_circuitAt 1 (some .int), Cond.methodLink RX7 211 yX7_isTaken, Cond.instanceMethod yX7_isTaken, Cond.selects RX7 yX7_isTaken yX7_isTaken]
def wsX7_heldUp_r4 : List Cond := [Cond.code yX7_isTaken cX7_isTaken 4 none, Cond.methodLink RX7 154 Lib.Math.max.name, Cond.static Lib.Math.max.name, Cond.initialized "java/lang/Math", Cond.code Lib.Math.max.name Lib.Math.max.code 2 (some .int), Cond.methodLink RX7 187 yX7_goesFrom, Cond.instanceMethod yX7_goesFrom, Cond.selects RX7 yX7_goesFrom yX7_goesFrom, Cond.code yX7_goesFrom cX7_goesFrom 4 none, Cond.methodLink RX7 214 yX7_sends, Cond.instanceMethod yX7_sends, Cond.selects RX7 yX7_sends yX7_sends, Cond.code yX7_sends cX7_sends 4 none, Cond.methodLink RX7 193 yX7_sender, Cond.instanceMethod yX7_sender, Cond.selects RX7 yX7_sender yX7_sender, Cond.code yX7_sender cX7_sender 5 (some .int), Cond.methodLink RX7 190 yX7_credit, Cond.instanceMethod yX7_credit, Cond.selects RX7 yX7_credit yX7_credit, Cond.code yX7_credit cX7_credit 3 (some .int), Cond.methodLink RX7 169 yX7_outOf, Cond.instanceMethod yX7_outOf, Cond.selects RX7 yX7_outOf yX7_outOf]
def wsX7_heldUp_r5 : List Cond := [Cond.code yX7_outOf cX7_outOf 3 (some .int), Cond.methodLink RX7 217 yX7_waits, Cond.instanceMethod yX7_waits, Cond.selects RX7 yX7_waits yX7_waits, Cond.code yX7_waits cX7_waits 4 none, Cond.methodLink RX7 196 yX7_isHeld, Cond.instanceMethod yX7_isHeld, Cond.selects RX7 yX7_isHeld yX7_isHeld, Cond.code yX7_isHeld cX7_isHeld 3 (some .boolean), Cond.methodLink RX7 199 yX7_probes, Cond.instanceMethod yX7_probes, Cond.selects RX7 yX7_probes yX7_probes, Cond.code yX7_probes cX7_probes 3 none, Cond.methodLink RX7 220 yX7_adapts, Cond.instanceMethod yX7_adapts, Cond.selects RX7 yX7_adapts yX7_adapts, Cond.code yX7_adapts cX7_adapts 4 none, Cond.fieldLink RX7 34 "HopCreditsModel" "aims" "[I", Cond.methodLink RX7 175 Lib.Math.min.name, Cond.static Lib.Math.min.name, Cond.code Lib.Math.min.name Lib.Math.min.code 2 (some .int), Cond.methodLink RX7 202 yX7_aimOf, Cond.instanceMethod yX7_aimOf, Cond.selects RX7 yX7_aimOf yX7_aimOf]
def wsX7_heldUp_r6 : List Cond := [Cond.code yX7_aimOf cX7_aimOf 5 (some .int), Cond.methodLink RX7 151 yX7_pool, Cond.instanceMethod yX7_pool, Cond.selects RX7 yX7_pool yX7_pool, Cond.code yX7_pool cX7_pool 2 (some .int), Cond.methodLink RX7 172 yX7_leftFor, Cond.instanceMethod yX7_leftFor, Cond.selects RX7 yX7_leftFor yX7_leftFor, Cond.code yX7_leftFor cX7_leftFor 5 (some .int), Cond.methodLink RX7 262 yX7_bringBack, Cond.instanceMethod yX7_bringBack, Cond.selects RX7 yX7_bringBack yX7_bringBack, Cond.code yX7_bringBack cX7_bringBack 2 none]
def wsX7_heldUp : List Cond := .code yX7_heldUp cX7_heldUp 6 (some .int) :: ((wsX7_heldUp_r1 ++ (wsX7_heldUp_r2 ++ (wsX7_heldUp_r3 ++ (wsX7_heldUp_r4 ++ (wsX7_heldUp_r5 ++ wsX7_heldUp_r6))))) ++ wsX70)
def wsX7_idle_r1 : List Cond := [Cond.fieldLink RX7 49 "HopCreditsModel" "thrown" "I", Cond.methodLink RX7 130 yX7_isHop, Cond.instanceMethod yX7_isHop, Cond.selects RX7 yX7_isHop yX7_isHop, Cond.initialized RX7, Cond.code yX7_isHop cX7_isHop 2 (some .boolean), Cond.fieldLink RX7 124 "HopCreditsModel" "hops" "I", Cond.methodLink RX7 60 yX7_in, Cond.static yX7_in, Cond.code yX7_in cX7_in 3 (some .boolean), Cond.methodLink RX7 253 yX7_isSpan, Cond.static yX7_isSpan, Cond.code yX7_isSpan cX7_isSpan 2 (some .boolean), Cond.methodLink RX7 274 yX7_idleOf, Cond.instanceMethod yX7_idleOf, Cond.selects RX7 yX7_idleOf yX7_idleOf, Cond.code yX7_idleOf cX7_idleOf 6 (some .int), Cond.methodLink RX7 256 yX7_putAside, Cond.instanceMethod yX7_putAside, Cond.selects RX7 yX7_putAside yX7_putAside, Cond.code yX7_putAside cX7_putAside 2 none, Cond.fieldLink RX7 37 "HopCreditsModel" "aside" "[I", Cond.fieldLink RX7 22 "HopCreditsModel" "now" "[I", Cond.methodLink RX7 271 yX7_sentOver]
def wsX7_idle_r2 : List Cond := [Cond.instanceMethod yX7_sentOver, Cond.selects RX7 yX7_sentOver yX7_sentOver, Cond.code yX7_sentOver cX7_sentOver 4 (some .int), Cond.fieldLink RX7 127 "HopCreditsModel" "circuits" "I", Cond.methodLink RX7 163 yX7_lane, Cond.static yX7_lane, Cond.code yX7_lane cX7_lane 2 (some .int), Cond.methodLink RX7 226 yX7_ticks, Cond.instanceMethod yX7_ticks, Cond.selects RX7 yX7_ticks yX7_ticks, Cond.code yX7_ticks cX7_ticks 2 none, Cond.fieldLink RX7 28 "HopCreditsModel" "rule" "[I", Cond.methodLink RX7 205 yX7_arrives, Cond.instanceMethod yX7_arrives, Cond.selects RX7 yX7_arrives yX7_arrives, Cond.code yX7_arrives cX7_arrives 6 none, Cond.methodLink RX7 140 yX7_wayAt, Cond.static yX7_wayAt, Cond.code yX7_wayAt cX7_wayAt 2 (some .int), Cond.methodLink RX7 184 yX7_bufferAt, Cond.static yX7_bufferAt, Cond.code yX7_bufferAt cX7_bufferAt 2 (some .int), Cond.methodLink RX7 166 yX7_less, Cond.static yX7_less]
def wsX7_idle_r3 : List Cond := [Cond.code yX7_less cX7_less 2 (some .int), Cond.methodLink RX7 159 yX7_clearsWay, Cond.instanceMethod yX7_clearsWay, Cond.selects RX7 yX7_clearsWay yX7_clearsWay, Cond.code yX7_clearsWay cX7_clearsWay 5 none, Cond.methodLink RX7 95 yX7_has, Cond.static yX7_has, Cond.code yX7_has cX7_has 2 (some .boolean), Cond.methodLink RX7 181 yX7_updates, Cond.instanceMethod yX7_updates, Cond.selects RX7 yX7_updates yX7_updates, Cond.code yX7_updates cX7_updates 3 none, Cond.methodLink RX7 178 yX7_delay, Cond.instanceMethod yX7_delay, Cond.selects RX7 yX7_delay yX7_delay, Cond.code yX7_delay cX7_delay 2 (some .int), Cond.fieldLink RX7 31 "HopCreditsModel" "hop" "[I", Cond.methodLink RX7 208 yX7_comes, Cond.instanceMethod yX7_comes, Cond.selects RX7 yX7_comes yX7_comes, Cond.code yX7_comes cX7_comes 5 none, Cond.methodLink RX7 147 yX7_circuitAt, Cond.static yX7_circuitAt, Cond.code yX7_circuitAt cX7_circuitAt 1 (some .int)]
def wsX7_idle_r4 : List Cond := [Cond.methodLink RX7 211 yX7_isTaken, Cond.instanceMethod yX7_isTaken, Cond.selects RX7 yX7_isTaken yX7_isTaken, Cond.code yX7_isTaken cX7_isTaken 4 none, Cond.methodLink RX7 154 Lib.Math.max.name, Cond.static Lib.Math.max.name, Cond.initialized "java/lang/Math", Cond.code Lib.Math.max.name Lib.Math.max.code 2 (some .int), Cond.methodLink RX7 187 yX7_goesFrom, Cond.instanceMethod yX7_goesFrom, Cond.selects RX7 yX7_goesFrom yX7_goesFrom, Cond.code yX7_goesFrom cX7_goesFrom 4 none, Cond.methodLink RX7 214 yX7_sends, Cond.instanceMethod yX7_sends, Cond.selects RX7 yX7_sends yX7_sends, Cond.code yX7_sends cX7_sends 4 none, Cond.methodLink RX7 193 yX7_sender, Cond.instanceMethod yX7_sender, Cond.selects RX7 yX7_sender yX7_sender, Cond.code yX7_sender cX7_sender 5 (some .int), Cond.methodLink RX7 190 yX7_credit, Cond.instanceMethod yX7_credit, Cond.selects RX7 yX7_credit yX7_credit, Cond.code yX7_credit cX7_credit 3 (some .int)]
def wsX7_idle_r5 : List Cond := [Cond.methodLink RX7 169 yX7_outOf, Cond.instanceMethod yX7_outOf, Cond.selects RX7 yX7_outOf yX7_outOf, Cond.code yX7_outOf cX7_outOf 3 (some .int), Cond.methodLink RX7 217 yX7_waits, Cond.instanceMethod yX7_waits, Cond.selects RX7 yX7_waits yX7_waits, Cond.code yX7_waits cX7_waits 4 none, Cond.methodLink RX7 196 yX7_isHeld, Cond.instanceMethod yX7_isHeld, Cond.selects RX7 yX7_isHeld yX7_isHeld, Cond.code yX7_isHeld cX7_isHeld 3 (some .boolean), Cond.methodLink RX7 199 yX7_probes, Cond.instanceMethod yX7_probes, Cond.selects RX7 yX7_probes yX7_probes, Cond.code yX7_probes cX7_probes 3 none, Cond.methodLink RX7 220 yX7_adapts, Cond.instanceMethod yX7_adapts, Cond.selects RX7 yX7_adapts yX7_adapts, Cond.code yX7_adapts cX7_adapts 4 none, Cond.fieldLink RX7 34 "HopCreditsModel" "aims" "[I", Cond.methodLink RX7 175 Lib.Math.min.name, Cond.static Lib.Math.min.name, Cond.code Lib.Math.min.name Lib.Math.min.code 2 (some .int)]
def wsX7_idle_r6 : List Cond := [Cond.methodLink RX7 202 yX7_aimOf, Cond.instanceMethod yX7_aimOf, Cond.selects RX7 yX7_aimOf yX7_aimOf, Cond.code yX7_aimOf cX7_aimOf 5 (some .int), Cond.methodLink RX7 151 yX7_pool, Cond.instanceMethod yX7_pool, Cond.selects RX7 yX7_pool yX7_pool, Cond.code yX7_pool cX7_pool 2 (some .int), Cond.methodLink RX7 172 yX7_leftFor, Cond.instanceMethod yX7_leftFor, Cond.selects RX7 yX7_leftFor yX7_leftFor, Cond.code yX7_leftFor cX7_leftFor 5 (some .int), Cond.methodLink RX7 262 yX7_bringBack, Cond.instanceMethod yX7_bringBack, Cond.selects RX7 yX7_bringBack yX7_bringBack, Cond.code yX7_bringBack cX7_bringBack 2 none]
def wsX7_idle : List Cond := .code yX7_idle cX7_idle 3 (some .int) :: ((wsX7_idle_r1 ++ (wsX7_idle_r2 ++ (wsX7_idle_r3 ++ (wsX7_idle_r4 ++ (wsX7_idle_r5 ++ wsX7_idle_r6))))) ++ wsX70)
def wsX7_busiest_r1 : List Cond := [Cond.fieldLink RX7 49 "HopCreditsModel" "thrown" "I", Cond.fieldLink RX7 124 "HopCreditsModel" "hops" "I", Cond.methodLink RX7 136 yX7_isNet, Cond.instanceMethod yX7_isNet, Cond.selects RX7 yX7_isNet yX7_isNet, Cond.initialized RX7, Cond.code yX7_isNet cX7_isNet 1 (some .boolean), Cond.methodLink RX7 253 yX7_isSpan, Cond.static yX7_isSpan, Cond.code yX7_isSpan cX7_isSpan 2 (some .boolean), Cond.methodLink RX7 60 yX7_in, Cond.static yX7_in, Cond.code yX7_in cX7_in 3 (some .boolean), Cond.methodLink RX7 274 yX7_idleOf, Cond.instanceMethod yX7_idleOf, Cond.selects RX7 yX7_idleOf yX7_idleOf, Cond.code yX7_idleOf cX7_idleOf 6 (some .int), Cond.methodLink RX7 256 yX7_putAside, Cond.instanceMethod yX7_putAside, Cond.selects RX7 yX7_putAside yX7_putAside, Cond.code yX7_putAside cX7_putAside 2 none, Cond.fieldLink RX7 37 "HopCreditsModel" "aside" "[I", Cond.fieldLink RX7 22 "HopCreditsModel" "now" "[I", Cond.methodLink RX7 271 yX7_sentOver]
def wsX7_busiest_r2 : List Cond := [Cond.instanceMethod yX7_sentOver, Cond.selects RX7 yX7_sentOver yX7_sentOver, Cond.code yX7_sentOver cX7_sentOver 4 (some .int), Cond.fieldLink RX7 127 "HopCreditsModel" "circuits" "I", Cond.methodLink RX7 163 yX7_lane, Cond.static yX7_lane, Cond.code yX7_lane cX7_lane 2 (some .int), Cond.methodLink RX7 226 yX7_ticks, Cond.instanceMethod yX7_ticks, Cond.selects RX7 yX7_ticks yX7_ticks, Cond.code yX7_ticks cX7_ticks 2 none, Cond.fieldLink RX7 28 "HopCreditsModel" "rule" "[I", Cond.methodLink RX7 205 yX7_arrives, Cond.instanceMethod yX7_arrives, Cond.selects RX7 yX7_arrives yX7_arrives, Cond.code yX7_arrives cX7_arrives 6 none, Cond.methodLink RX7 140 yX7_wayAt, Cond.static yX7_wayAt, Cond.code yX7_wayAt cX7_wayAt 2 (some .int), Cond.methodLink RX7 184 yX7_bufferAt, Cond.static yX7_bufferAt, Cond.code yX7_bufferAt cX7_bufferAt 2 (some .int), Cond.methodLink RX7 166 yX7_less, Cond.static yX7_less]
def wsX7_busiest_r3 : List Cond := [Cond.code yX7_less cX7_less 2 (some .int), Cond.methodLink RX7 159 yX7_clearsWay, Cond.instanceMethod yX7_clearsWay, Cond.selects RX7 yX7_clearsWay yX7_clearsWay, Cond.code yX7_clearsWay cX7_clearsWay 5 none, Cond.methodLink RX7 95 yX7_has, Cond.static yX7_has, Cond.code yX7_has cX7_has 2 (some .boolean), Cond.methodLink RX7 181 yX7_updates, Cond.instanceMethod yX7_updates, Cond.selects RX7 yX7_updates yX7_updates, Cond.code yX7_updates cX7_updates 3 none, Cond.methodLink RX7 178 yX7_delay, Cond.instanceMethod yX7_delay, Cond.selects RX7 yX7_delay yX7_delay, Cond.code yX7_delay cX7_delay 2 (some .int), Cond.fieldLink RX7 31 "HopCreditsModel" "hop" "[I", Cond.methodLink RX7 208 yX7_comes, Cond.instanceMethod yX7_comes, Cond.selects RX7 yX7_comes yX7_comes, Cond.code yX7_comes cX7_comes 5 none, Cond.methodLink RX7 147 yX7_circuitAt, Cond.static yX7_circuitAt, Cond.code yX7_circuitAt cX7_circuitAt 1 (some .int)]
def wsX7_busiest_r4 : List Cond := [Cond.methodLink RX7 211 yX7_isTaken, Cond.instanceMethod yX7_isTaken, Cond.selects RX7 yX7_isTaken yX7_isTaken, Cond.code yX7_isTaken cX7_isTaken 4 none, Cond.methodLink RX7 154 Lib.Math.max.name, Cond.static Lib.Math.max.name, Cond.initialized "java/lang/Math", Cond.code Lib.Math.max.name Lib.Math.max.code 2 (some .int), Cond.methodLink RX7 187 yX7_goesFrom, Cond.instanceMethod yX7_goesFrom, Cond.selects RX7 yX7_goesFrom yX7_goesFrom, Cond.code yX7_goesFrom cX7_goesFrom 4 none, Cond.methodLink RX7 214 yX7_sends, Cond.instanceMethod yX7_sends, Cond.selects RX7 yX7_sends yX7_sends, Cond.code yX7_sends cX7_sends 4 none, Cond.methodLink RX7 193 yX7_sender, Cond.instanceMethod yX7_sender, Cond.selects RX7 yX7_sender yX7_sender, Cond.code yX7_sender cX7_sender 5 (some .int), Cond.methodLink RX7 190 yX7_credit, Cond.instanceMethod yX7_credit, Cond.selects RX7 yX7_credit yX7_credit, Cond.code yX7_credit cX7_credit 3 (some .int)]
def wsX7_busiest_r5 : List Cond := [Cond.methodLink RX7 169 yX7_outOf, Cond.instanceMethod yX7_outOf, Cond.selects RX7 yX7_outOf yX7_outOf, Cond.code yX7_outOf cX7_outOf 3 (some .int), Cond.methodLink RX7 217 yX7_waits, Cond.instanceMethod yX7_waits, Cond.selects RX7 yX7_waits yX7_waits, Cond.code yX7_waits cX7_waits 4 none, Cond.methodLink RX7 196 yX7_isHeld, Cond.instanceMethod yX7_isHeld, Cond.selects RX7 yX7_isHeld yX7_isHeld, Cond.code yX7_isHeld cX7_isHeld 3 (some .boolean), Cond.methodLink RX7 199 yX7_probes, Cond.instanceMethod yX7_probes, Cond.selects RX7 yX7_probes yX7_probes, Cond.code yX7_probes cX7_probes 3 none, Cond.methodLink RX7 220 yX7_adapts, Cond.instanceMethod yX7_adapts, Cond.selects RX7 yX7_adapts yX7_adapts, Cond.code yX7_adapts cX7_adapts 4 none, Cond.fieldLink RX7 34 "HopCreditsModel" "aims" "[I", Cond.methodLink RX7 175 Lib.Math.min.name, Cond.static Lib.Math.min.name, Cond.code Lib.Math.min.name Lib.Math.min.code 2 (some .int)]
def wsX7_busiest_r6 : List Cond := [Cond.methodLink RX7 202 yX7_aimOf, Cond.instanceMethod yX7_aimOf, Cond.selects RX7 yX7_aimOf yX7_aimOf, Cond.code yX7_aimOf cX7_aimOf 5 (some .int), Cond.methodLink RX7 151 yX7_pool, Cond.instanceMethod yX7_pool, Cond.selects RX7 yX7_pool yX7_pool, Cond.code yX7_pool cX7_pool 2 (some .int), Cond.methodLink RX7 172 yX7_leftFor, Cond.instanceMethod yX7_leftFor, Cond.selects RX7 yX7_leftFor yX7_leftFor, Cond.code yX7_leftFor cX7_leftFor 5 (some .int), Cond.methodLink RX7 262 yX7_bringBack, Cond.instanceMethod yX7_bringBack, Cond.selects RX7 yX7_bringBack yX7_bringBack, Cond.code yX7_bringBack cX7_bringBack 2 none]
def wsX7_busiest : List Cond := .code yX7_busiest cX7_busiest 4 (some .int) :: ((wsX7_busiest_r1 ++ (wsX7_busiest_r2 ++ (wsX7_busiest_r3 ++ (wsX7_busiest_r4 ++ (wsX7_busiest_r5 ++ wsX7_busiest_r6))))) ++ wsX70)
def wsX7_most_r1 : List Cond := [Cond.fieldLink RX7 49 "HopCreditsModel" "thrown" "I", Cond.methodLink RX7 154 Lib.Math.max.name, Cond.static Lib.Math.max.name, Cond.initialized "java/lang/Math", Cond.code Lib.Math.max.name Lib.Math.max.code 2 (some .int), Cond.methodLink RX7 250 yX7_isNode, Cond.instanceMethod yX7_isNode, Cond.selects RX7 yX7_isNode yX7_isNode, Cond.initialized RX7, Cond.code yX7_isNode cX7_isNode 2 (some .boolean), Cond.fieldLink RX7 124 "HopCreditsModel" "hops" "I", Cond.methodLink RX7 136 yX7_isNet, Cond.instanceMethod yX7_isNet, Cond.selects RX7 yX7_isNet yX7_isNet, Cond.code yX7_isNet cX7_isNet 1 (some .boolean), Cond.methodLink RX7 60 yX7_in, Cond.static yX7_in, Cond.code yX7_in cX7_in 3 (some .boolean), Cond.methodLink RX7 133 yX7_isCircuit, Cond.instanceMethod yX7_isCircuit, Cond.selects RX7 yX7_isCircuit yX7_isCircuit, Cond.code yX7_isCircuit cX7_isCircuit 2 (some .boolean), Cond.fieldLink RX7 127 "HopCreditsModel" "circuits" "I", Cond.methodLink RX7 253 yX7_isSpan]
def wsX7_most_r2 : List Cond := [Cond.static yX7_isSpan, Cond.code yX7_isSpan cX7_isSpan 2 (some .boolean), Cond.methodLink RX7 256 yX7_putAside, Cond.instanceMethod yX7_putAside, Cond.selects RX7 yX7_putAside yX7_putAside, Cond.code yX7_putAside cX7_putAside 2 none, Cond.fieldLink RX7 37 "HopCreditsModel" "aside" "[I", Cond.fieldLink RX7 22 "HopCreditsModel" "now" "[I", Cond.methodLink RX7 277 yX7_there, Cond.instanceMethod yX7_there, Cond.selects RX7 yX7_there yX7_there, Cond.code yX7_there cX7_there 6 (some .int), Cond.methodLink RX7 237 yX7_cellsOn, Cond.instanceMethod yX7_cellsOn, Cond.selects RX7 yX7_cellsOn yX7_cellsOn, Cond.code yX7_cellsOn cX7_cellsOn 6 (some .int), Cond.methodLink RX7 140 yX7_wayAt, Cond.static yX7_wayAt, Cond.code yX7_wayAt cX7_wayAt 2 (some .int), Cond.methodLink RX7 184 yX7_bufferAt, Cond.static yX7_bufferAt, Cond.code yX7_bufferAt cX7_bufferAt 2 (some .int), Cond.methodLink RX7 226 yX7_ticks, Cond.instanceMethod yX7_ticks]
def wsX7_most_r3 : List Cond := [Cond.selects RX7 yX7_ticks yX7_ticks, Cond.code yX7_ticks cX7_ticks 2 none, Cond.fieldLink RX7 28 "HopCreditsModel" "rule" "[I", Cond.methodLink RX7 205 yX7_arrives, Cond.instanceMethod yX7_arrives, Cond.selects RX7 yX7_arrives yX7_arrives, Cond.code yX7_arrives cX7_arrives 6 none, Cond.methodLink RX7 163 yX7_lane, Cond.static yX7_lane, Cond.code yX7_lane cX7_lane 2 (some .int), Cond.methodLink RX7 166 yX7_less, Cond.static yX7_less, Cond.code yX7_less cX7_less 2 (some .int), Cond.methodLink RX7 159 yX7_clearsWay, Cond.instanceMethod yX7_clearsWay, Cond.selects RX7 yX7_clearsWay yX7_clearsWay, Cond.code yX7_clearsWay cX7_clearsWay 5 none, Cond.methodLink RX7 95 yX7_has, Cond.static yX7_has, Cond.code yX7_has cX7_has 2 (some .boolean), Cond.methodLink RX7 181 yX7_updates, Cond.instanceMethod yX7_updates, Cond.selects RX7 yX7_updates yX7_updates, Cond.code yX7_updates cX7_updates 3 none]
def wsX7_most_r4 : List Cond := [Cond.methodLink RX7 178 yX7_delay, Cond.instanceMethod yX7_delay, Cond.selects RX7 yX7_delay yX7_delay, Cond.code yX7_delay cX7_delay 2 (some .int), Cond.fieldLink RX7 31 "HopCreditsModel" "hop" "[I", Cond.methodLink RX7 208 yX7_comes, Cond.instanceMethod yX7_comes, Cond.selects RX7 yX7_comes yX7_comes, Cond.code yX7_comes cX7_comes 5 none, Cond.methodLink RX7 147 yX7_circuitAt, Cond.static yX7_circuitAt, Cond.code yX7_circuitAt cX7_circuitAt 1 (some .int), Cond.methodLink RX7 211 yX7_isTaken, Cond.instanceMethod yX7_isTaken, Cond.selects RX7 yX7_isTaken yX7_isTaken, Cond.code yX7_isTaken cX7_isTaken 4 none, Cond.methodLink RX7 187 yX7_goesFrom, Cond.instanceMethod yX7_goesFrom, Cond.selects RX7 yX7_goesFrom yX7_goesFrom, Cond.code yX7_goesFrom cX7_goesFrom 4 none, Cond.methodLink RX7 214 yX7_sends, Cond.instanceMethod yX7_sends, Cond.selects RX7 yX7_sends yX7_sends, Cond.code yX7_sends cX7_sends 4 none]
def wsX7_most_r5 : List Cond := [Cond.methodLink RX7 193 yX7_sender, Cond.instanceMethod yX7_sender, Cond.selects RX7 yX7_sender yX7_sender, Cond.code yX7_sender cX7_sender 5 (some .int), Cond.methodLink RX7 190 yX7_credit, Cond.instanceMethod yX7_credit, Cond.selects RX7 yX7_credit yX7_credit, Cond.code yX7_credit cX7_credit 3 (some .int), Cond.methodLink RX7 169 yX7_outOf, Cond.instanceMethod yX7_outOf, Cond.selects RX7 yX7_outOf yX7_outOf, Cond.code yX7_outOf cX7_outOf 3 (some .int), Cond.methodLink RX7 217 yX7_waits, Cond.instanceMethod yX7_waits, Cond.selects RX7 yX7_waits yX7_waits, Cond.code yX7_waits cX7_waits 4 none, Cond.methodLink RX7 196 yX7_isHeld, Cond.instanceMethod yX7_isHeld, Cond.selects RX7 yX7_isHeld yX7_isHeld, Cond.code yX7_isHeld cX7_isHeld 3 (some .boolean), Cond.methodLink RX7 199 yX7_probes, Cond.instanceMethod yX7_probes, Cond.selects RX7 yX7_probes yX7_probes, Cond.code yX7_probes cX7_probes 3 none]
def wsX7_most_r6 : List Cond := [Cond.methodLink RX7 220 yX7_adapts, Cond.instanceMethod yX7_adapts, Cond.selects RX7 yX7_adapts yX7_adapts, Cond.code yX7_adapts cX7_adapts 4 none, Cond.fieldLink RX7 34 "HopCreditsModel" "aims" "[I", Cond.methodLink RX7 175 Lib.Math.min.name, Cond.static Lib.Math.min.name, Cond.code Lib.Math.min.name Lib.Math.min.code 2 (some .int), Cond.methodLink RX7 202 yX7_aimOf, Cond.instanceMethod yX7_aimOf, Cond.selects RX7 yX7_aimOf yX7_aimOf, Cond.code yX7_aimOf cX7_aimOf 5 (some .int), Cond.methodLink RX7 151 yX7_pool, Cond.instanceMethod yX7_pool, Cond.selects RX7 yX7_pool yX7_pool, Cond.code yX7_pool cX7_pool 2 (some .int), Cond.methodLink RX7 172 yX7_leftFor, Cond.instanceMethod yX7_leftFor, Cond.selects RX7 yX7_leftFor yX7_leftFor, Cond.code yX7_leftFor cX7_leftFor 5 (some .int), Cond.methodLink RX7 262 yX7_bringBack, Cond.instanceMethod yX7_bringBack, Cond.selects RX7 yX7_bringBack yX7_bringBack, Cond.code yX7_bringBack cX7_bringBack 2 none]
def wsX7_most : List Cond := .code yX7_most cX7_most 7 (some .int) :: ((wsX7_most_r1 ++ (wsX7_most_r2 ++ (wsX7_most_r3 ++ (wsX7_most_r4 ++ (wsX7_most_r5 ++ wsX7_most_r6))))) ++ wsX70)
def wsX7_healed_r1 : List Cond := [Cond.fieldLink RX7 49 "HopCreditsModel" "thrown" "I", Cond.methodLink RX7 136 yX7_isNet, Cond.instanceMethod yX7_isNet, Cond.selects RX7 yX7_isNet yX7_isNet, Cond.initialized RX7, Cond.code yX7_isNet cX7_isNet 1 (some .boolean), Cond.fieldLink RX7 124 "HopCreditsModel" "hops" "I", Cond.methodLink RX7 256 yX7_putAside, Cond.instanceMethod yX7_putAside, Cond.selects RX7 yX7_putAside yX7_putAside, Cond.code yX7_putAside cX7_putAside 2 none, Cond.fieldLink RX7 37 "HopCreditsModel" "aside" "[I", Cond.fieldLink RX7 22 "HopCreditsModel" "now" "[I", Cond.methodLink RX7 280 yX7_unknown, Cond.instanceMethod yX7_unknown, Cond.selects RX7 yX7_unknown yX7_unknown, Cond.code yX7_unknown cX7_unknown 4 (some .int), Cond.fieldLink RX7 127 "HopCreditsModel" "circuits" "I", Cond.methodLink RX7 163 yX7_lane, Cond.static yX7_lane, Cond.code yX7_lane cX7_lane 2 (some .int), Cond.methodLink RX7 283 yX7_ticksStill, Cond.instanceMethod yX7_ticksStill, Cond.selects RX7 yX7_ticksStill yX7_ticksStill]
def wsX7_healed_r2 : List Cond := [Cond.code yX7_ticksStill cX7_ticksStill 2 none, Cond.methodLink RX7 205 yX7_arrives, Cond.instanceMethod yX7_arrives, Cond.selects RX7 yX7_arrives yX7_arrives, Cond.code yX7_arrives cX7_arrives 6 none, Cond.methodLink RX7 140 yX7_wayAt, Cond.static yX7_wayAt, Cond.code yX7_wayAt cX7_wayAt 2 (some .int), Cond.methodLink RX7 184 yX7_bufferAt, Cond.static yX7_bufferAt, Cond.code yX7_bufferAt cX7_bufferAt 2 (some .int), Cond.methodLink RX7 166 yX7_less, Cond.static yX7_less, Cond.code yX7_less cX7_less 2 (some .int), Cond.methodLink RX7 159 yX7_clearsWay, Cond.instanceMethod yX7_clearsWay, Cond.selects RX7 yX7_clearsWay yX7_clearsWay, Cond.code yX7_clearsWay cX7_clearsWay 5 none, Cond.methodLink RX7 95 yX7_has, Cond.static yX7_has, Cond.code yX7_has cX7_has 2 (some .boolean), Cond.methodLink RX7 181 yX7_updates, Cond.instanceMethod yX7_updates, Cond.selects RX7 yX7_updates yX7_updates]
def wsX7_healed_r3 : List Cond := [Cond.code yX7_updates cX7_updates 3 none, Cond.methodLink RX7 178 yX7_delay, Cond.instanceMethod yX7_delay, Cond.selects RX7 yX7_delay yX7_delay, Cond.code yX7_delay cX7_delay 2 (some .int), Cond.fieldLink RX7 31 "HopCreditsModel" "hop" "[I", Cond.methodLink RX7 217 yX7_waits, Cond.instanceMethod yX7_waits, Cond.selects RX7 yX7_waits yX7_waits, Cond.code yX7_waits cX7_waits 4 none, Cond.fieldLink RX7 28 "HopCreditsModel" "rule" "[I", Cond.methodLink RX7 196 yX7_isHeld, Cond.instanceMethod yX7_isHeld, Cond.selects RX7 yX7_isHeld yX7_isHeld, Cond.code yX7_isHeld cX7_isHeld 3 (some .boolean), Cond.methodLink RX7 190 yX7_credit, Cond.instanceMethod yX7_credit, Cond.selects RX7 yX7_credit yX7_credit, Cond.code yX7_credit cX7_credit 3 (some .int), Cond.methodLink RX7 154 Lib.Math.max.name, Cond.static Lib.Math.max.name, Cond.initialized "java/lang/Math", Cond.code Lib.Math.max.name Lib.Math.max.code 2 (some .int), Cond.methodLink RX7 169 yX7_outOf]
def wsX7_healed_r4 : List Cond := [Cond.instanceMethod yX7_outOf, Cond.selects RX7 yX7_outOf yX7_outOf, Cond.code yX7_outOf cX7_outOf 3 (some .int), Cond.methodLink RX7 199 yX7_probes, Cond.instanceMethod yX7_probes, Cond.selects RX7 yX7_probes yX7_probes, Cond.code yX7_probes cX7_probes 3 none, Cond.methodLink RX7 262 yX7_bringBack, Cond.instanceMethod yX7_bringBack, Cond.selects RX7 yX7_bringBack yX7_bringBack, Cond.code yX7_bringBack cX7_bringBack 2 none]
def wsX7_healed : List Cond := .code yX7_healed cX7_healed 2 (some .int) :: ((wsX7_healed_r1 ++ (wsX7_healed_r2 ++ (wsX7_healed_r3 ++ wsX7_healed_r4))) ++ wsX70)
def wsX7_loss_r1 : List Cond := [Cond.fieldLink RX7 49 "HopCreditsModel" "thrown" "I", Cond.constant RX7 236 (-1000000), Cond.methodLink RX7 136 yX7_isNet, Cond.instanceMethod yX7_isNet, Cond.selects RX7 yX7_isNet yX7_isNet, Cond.initialized RX7, Cond.code yX7_isNet cX7_isNet 1 (some .boolean), Cond.fieldLink RX7 124 "HopCreditsModel" "hops" "I", Cond.methodLink RX7 60 yX7_in, Cond.static yX7_in, Cond.code yX7_in cX7_in 3 (some .boolean), Cond.methodLink RX7 253 yX7_isSpan, Cond.static yX7_isSpan, Cond.code yX7_isSpan cX7_isSpan 2 (some .boolean), Cond.methodLink RX7 286 yX7_lossOf, Cond.instanceMethod yX7_lossOf, Cond.selects RX7 yX7_lossOf yX7_lossOf, Cond.code yX7_lossOf cX7_lossOf 4 (some .int), Cond.methodLink RX7 256 yX7_putAside, Cond.instanceMethod yX7_putAside, Cond.selects RX7 yX7_putAside yX7_putAside, Cond.code yX7_putAside cX7_putAside 2 none, Cond.fieldLink RX7 37 "HopCreditsModel" "aside" "[I", Cond.fieldLink RX7 22 "HopCreditsModel" "now" "[I"]
def wsX7_loss_r2 : List Cond := [Cond.methodLink RX7 268 yX7_deliveredIn, Cond.instanceMethod yX7_deliveredIn, Cond.selects RX7 yX7_deliveredIn yX7_deliveredIn, Cond.code yX7_deliveredIn cX7_deliveredIn 5 (some .int), Cond.methodLink RX7 265 yX7_deliveredOf, Cond.instanceMethod yX7_deliveredOf, Cond.selects RX7 yX7_deliveredOf yX7_deliveredOf, Cond.code yX7_deliveredOf cX7_deliveredOf 4 (some .int), Cond.fieldLink RX7 127 "HopCreditsModel" "circuits" "I", Cond.methodLink RX7 147 yX7_circuitAt, Cond.static yX7_circuitAt, Cond.code yX7_circuitAt cX7_circuitAt 1 (some .int), Cond.methodLink RX7 259 yX7_goesOn, Cond.instanceMethod yX7_goesOn, Cond.selects RX7 yX7_goesOn yX7_goesOn, Cond.code yX7_goesOn cX7_goesOn 3 none, Cond.methodLink RX7 226 yX7_ticks, Cond.instanceMethod yX7_ticks, Cond.selects RX7 yX7_ticks yX7_ticks, Cond.code yX7_ticks cX7_ticks 2 none, Cond.fieldLink RX7 28 "HopCreditsModel" "rule" "[I", Cond.methodLink RX7 205 yX7_arrives, Cond.instanceMethod yX7_arrives, Cond.selects RX7 yX7_arrives yX7_arrives]
def wsX7_loss_r3 : List Cond := [Cond.code yX7_arrives cX7_arrives 6 none, Cond.methodLink RX7 140 yX7_wayAt, Cond.static yX7_wayAt, Cond.code yX7_wayAt cX7_wayAt 2 (some .int), Cond.methodLink RX7 184 yX7_bufferAt, Cond.static yX7_bufferAt, Cond.code yX7_bufferAt cX7_bufferAt 2 (some .int), Cond.methodLink RX7 163 yX7_lane, Cond.static yX7_lane, Cond.code yX7_lane cX7_lane 2 (some .int), Cond.methodLink RX7 166 yX7_less, Cond.static yX7_less, Cond.code yX7_less cX7_less 2 (some .int), Cond.methodLink RX7 159 yX7_clearsWay, Cond.instanceMethod yX7_clearsWay, Cond.selects RX7 yX7_clearsWay yX7_clearsWay, Cond.code yX7_clearsWay cX7_clearsWay 5 none, Cond.methodLink RX7 95 yX7_has, Cond.static yX7_has, Cond.code yX7_has cX7_has 2 (some .boolean), Cond.methodLink RX7 181 yX7_updates, Cond.instanceMethod yX7_updates, Cond.selects RX7 yX7_updates yX7_updates, Cond.code yX7_updates cX7_updates 3 none]
def wsX7_loss_r4 : List Cond := [Cond.methodLink RX7 178 yX7_delay, Cond.instanceMethod yX7_delay, Cond.selects RX7 yX7_delay yX7_delay, Cond.code yX7_delay cX7_delay 2 (some .int), Cond.fieldLink RX7 31 "HopCreditsModel" "hop" "[I", Cond.methodLink RX7 208 yX7_comes, Cond.instanceMethod yX7_comes, Cond.selects RX7 yX7_comes yX7_comes, Cond.code yX7_comes cX7_comes 5 none, Cond.methodLink RX7 211 yX7_isTaken, Cond.instanceMethod yX7_isTaken, Cond.selects RX7 yX7_isTaken yX7_isTaken, Cond.code yX7_isTaken cX7_isTaken 4 none, Cond.methodLink RX7 154 Lib.Math.max.name, Cond.static Lib.Math.max.name, Cond.initialized "java/lang/Math", Cond.code Lib.Math.max.name Lib.Math.max.code 2 (some .int), Cond.methodLink RX7 187 yX7_goesFrom, Cond.instanceMethod yX7_goesFrom, Cond.selects RX7 yX7_goesFrom yX7_goesFrom, Cond.code yX7_goesFrom cX7_goesFrom 4 none, Cond.methodLink RX7 214 yX7_sends, Cond.instanceMethod yX7_sends, Cond.selects RX7 yX7_sends yX7_sends]
def wsX7_loss_r5 : List Cond := [Cond.code yX7_sends cX7_sends 4 none, Cond.methodLink RX7 193 yX7_sender, Cond.instanceMethod yX7_sender, Cond.selects RX7 yX7_sender yX7_sender, Cond.code yX7_sender cX7_sender 5 (some .int), Cond.methodLink RX7 190 yX7_credit, Cond.instanceMethod yX7_credit, Cond.selects RX7 yX7_credit yX7_credit, Cond.code yX7_credit cX7_credit 3 (some .int), Cond.methodLink RX7 169 yX7_outOf, Cond.instanceMethod yX7_outOf, Cond.selects RX7 yX7_outOf yX7_outOf, Cond.code yX7_outOf cX7_outOf 3 (some .int), Cond.methodLink RX7 217 yX7_waits, Cond.instanceMethod yX7_waits, Cond.selects RX7 yX7_waits yX7_waits, Cond.code yX7_waits cX7_waits 4 none, Cond.methodLink RX7 196 yX7_isHeld, Cond.instanceMethod yX7_isHeld, Cond.selects RX7 yX7_isHeld yX7_isHeld, Cond.code yX7_isHeld cX7_isHeld 3 (some .boolean), Cond.methodLink RX7 199 yX7_probes, Cond.instanceMethod yX7_probes, Cond.selects RX7 yX7_probes yX7_probes]
def wsX7_loss_r6 : List Cond := [Cond.code yX7_probes cX7_probes 3 none, Cond.methodLink RX7 220 yX7_adapts, Cond.instanceMethod yX7_adapts, Cond.selects RX7 yX7_adapts yX7_adapts, Cond.code yX7_adapts cX7_adapts 4 none, Cond.fieldLink RX7 34 "HopCreditsModel" "aims" "[I", Cond.methodLink RX7 175 Lib.Math.min.name, Cond.static Lib.Math.min.name, Cond.code Lib.Math.min.name Lib.Math.min.code 2 (some .int), Cond.methodLink RX7 202 yX7_aimOf, Cond.instanceMethod yX7_aimOf, Cond.selects RX7 yX7_aimOf yX7_aimOf, Cond.code yX7_aimOf cX7_aimOf 5 (some .int), Cond.methodLink RX7 151 yX7_pool, Cond.instanceMethod yX7_pool, Cond.selects RX7 yX7_pool yX7_pool, Cond.code yX7_pool cX7_pool 2 (some .int), Cond.methodLink RX7 172 yX7_leftFor, Cond.instanceMethod yX7_leftFor, Cond.selects RX7 yX7_leftFor yX7_leftFor, Cond.code yX7_leftFor cX7_leftFor 5 (some .int), Cond.methodLink RX7 262 yX7_bringBack, Cond.instanceMethod yX7_bringBack, Cond.selects RX7 yX7_bringBack yX7_bringBack]
def wsX7_loss_r7 : List Cond := [Cond.code yX7_bringBack cX7_bringBack 2 none, Cond.methodLink RX7 289 yX7_deliveredJammed, Cond.instanceMethod yX7_deliveredJammed, Cond.selects RX7 yX7_deliveredJammed yX7_deliveredJammed, Cond.code yX7_deliveredJammed cX7_deliveredJammed 4 (some .int)]
def wsX7_loss : List Cond := .code yX7_loss cX7_loss 3 (some .int) :: ((wsX7_loss_r1 ++ (wsX7_loss_r2 ++ (wsX7_loss_r3 ++ (wsX7_loss_r4 ++ (wsX7_loss_r5 ++ (wsX7_loss_r6 ++ wsX7_loss_r7)))))) ++ wsX70)
def wsX7_bears_r1 : List Cond := [Cond.fieldLink RX7 49 "HopCreditsModel" "thrown" "I", Cond.methodLink RX7 136 yX7_isNet, Cond.instanceMethod yX7_isNet, Cond.selects RX7 yX7_isNet yX7_isNet, Cond.initialized RX7, Cond.code yX7_isNet cX7_isNet 1 (some .boolean), Cond.fieldLink RX7 124 "HopCreditsModel" "hops" "I", Cond.methodLink RX7 253 yX7_isSpan, Cond.static yX7_isSpan, Cond.code yX7_isSpan cX7_isSpan 2 (some .boolean), Cond.methodLink RX7 60 yX7_in, Cond.static yX7_in, Cond.code yX7_in cX7_in 3 (some .boolean), Cond.methodLink RX7 286 yX7_lossOf, Cond.instanceMethod yX7_lossOf, Cond.selects RX7 yX7_lossOf yX7_lossOf, Cond.code yX7_lossOf cX7_lossOf 4 (some .int), Cond.methodLink RX7 256 yX7_putAside, Cond.instanceMethod yX7_putAside, Cond.selects RX7 yX7_putAside yX7_putAside, Cond.code yX7_putAside cX7_putAside 2 none, Cond.fieldLink RX7 37 "HopCreditsModel" "aside" "[I", Cond.fieldLink RX7 22 "HopCreditsModel" "now" "[I", Cond.methodLink RX7 268 yX7_deliveredIn]
def wsX7_bears_r2 : List Cond := [Cond.instanceMethod yX7_deliveredIn, Cond.selects RX7 yX7_deliveredIn yX7_deliveredIn, Cond.code yX7_deliveredIn cX7_deliveredIn 5 (some .int), Cond.methodLink RX7 265 yX7_deliveredOf, Cond.instanceMethod yX7_deliveredOf, Cond.selects RX7 yX7_deliveredOf yX7_deliveredOf, Cond.code yX7_deliveredOf cX7_deliveredOf 4 (some .int), Cond.fieldLink RX7 127 "HopCreditsModel" "circuits" "I", Cond.methodLink RX7 147 yX7_circuitAt, Cond.static yX7_circuitAt, Cond.code yX7_circuitAt cX7_circuitAt 1 (some .int), Cond.methodLink RX7 259 yX7_goesOn, Cond.instanceMethod yX7_goesOn, Cond.selects RX7 yX7_goesOn yX7_goesOn, Cond.code yX7_goesOn cX7_goesOn 3 none, Cond.methodLink RX7 226 yX7_ticks, Cond.instanceMethod yX7_ticks, Cond.selects RX7 yX7_ticks yX7_ticks, Cond.code yX7_ticks cX7_ticks 2 none, Cond.fieldLink RX7 28 "HopCreditsModel" "rule" "[I", Cond.methodLink RX7 205 yX7_arrives, Cond.instanceMethod yX7_arrives, Cond.selects RX7 yX7_arrives yX7_arrives, Cond.code yX7_arrives cX7_arrives 6 none]
def wsX7_bears_r3 : List Cond := [Cond.methodLink RX7 140 yX7_wayAt, Cond.static yX7_wayAt, Cond.code yX7_wayAt cX7_wayAt 2 (some .int), Cond.methodLink RX7 184 yX7_bufferAt, Cond.static yX7_bufferAt, Cond.code yX7_bufferAt cX7_bufferAt 2 (some .int), Cond.methodLink RX7 163 yX7_lane, Cond.static yX7_lane, Cond.code yX7_lane cX7_lane 2 (some .int), Cond.methodLink RX7 166 yX7_less, Cond.static yX7_less, Cond.code yX7_less cX7_less 2 (some .int), Cond.methodLink RX7 159 yX7_clearsWay, Cond.instanceMethod yX7_clearsWay, Cond.selects RX7 yX7_clearsWay yX7_clearsWay, Cond.code yX7_clearsWay cX7_clearsWay 5 none, Cond.methodLink RX7 95 yX7_has, Cond.static yX7_has, Cond.code yX7_has cX7_has 2 (some .boolean), Cond.methodLink RX7 181 yX7_updates, Cond.instanceMethod yX7_updates, Cond.selects RX7 yX7_updates yX7_updates, Cond.code yX7_updates cX7_updates 3 none, Cond.methodLink RX7 178 yX7_delay]
def wsX7_bears_r4 : List Cond := [Cond.instanceMethod yX7_delay, Cond.selects RX7 yX7_delay yX7_delay, Cond.code yX7_delay cX7_delay 2 (some .int), Cond.fieldLink RX7 31 "HopCreditsModel" "hop" "[I", Cond.methodLink RX7 208 yX7_comes, Cond.instanceMethod yX7_comes, Cond.selects RX7 yX7_comes yX7_comes, Cond.code yX7_comes cX7_comes 5 none, Cond.methodLink RX7 211 yX7_isTaken, Cond.instanceMethod yX7_isTaken, Cond.selects RX7 yX7_isTaken yX7_isTaken, Cond.code yX7_isTaken cX7_isTaken 4 none, Cond.methodLink RX7 154 Lib.Math.max.name, Cond.static Lib.Math.max.name, Cond.initialized "java/lang/Math", Cond.code Lib.Math.max.name Lib.Math.max.code 2 (some .int), Cond.methodLink RX7 187 yX7_goesFrom, Cond.instanceMethod yX7_goesFrom, Cond.selects RX7 yX7_goesFrom yX7_goesFrom, Cond.code yX7_goesFrom cX7_goesFrom 4 none, Cond.methodLink RX7 214 yX7_sends, Cond.instanceMethod yX7_sends, Cond.selects RX7 yX7_sends yX7_sends, Cond.code yX7_sends cX7_sends 4 none]
def wsX7_bears_r5 : List Cond := [Cond.methodLink RX7 193 yX7_sender, Cond.instanceMethod yX7_sender, Cond.selects RX7 yX7_sender yX7_sender, Cond.code yX7_sender cX7_sender 5 (some .int), Cond.methodLink RX7 190 yX7_credit, Cond.instanceMethod yX7_credit, Cond.selects RX7 yX7_credit yX7_credit, Cond.code yX7_credit cX7_credit 3 (some .int), Cond.methodLink RX7 169 yX7_outOf, Cond.instanceMethod yX7_outOf, Cond.selects RX7 yX7_outOf yX7_outOf, Cond.code yX7_outOf cX7_outOf 3 (some .int), Cond.methodLink RX7 217 yX7_waits, Cond.instanceMethod yX7_waits, Cond.selects RX7 yX7_waits yX7_waits, Cond.code yX7_waits cX7_waits 4 none, Cond.methodLink RX7 196 yX7_isHeld, Cond.instanceMethod yX7_isHeld, Cond.selects RX7 yX7_isHeld yX7_isHeld, Cond.code yX7_isHeld cX7_isHeld 3 (some .boolean), Cond.methodLink RX7 199 yX7_probes, Cond.instanceMethod yX7_probes, Cond.selects RX7 yX7_probes yX7_probes, Cond.code yX7_probes cX7_probes 3 none]
def wsX7_bears_r6 : List Cond := [Cond.methodLink RX7 220 yX7_adapts, Cond.instanceMethod yX7_adapts, Cond.selects RX7 yX7_adapts yX7_adapts, Cond.code yX7_adapts cX7_adapts 4 none, Cond.fieldLink RX7 34 "HopCreditsModel" "aims" "[I", Cond.methodLink RX7 175 Lib.Math.min.name, Cond.static Lib.Math.min.name, Cond.code Lib.Math.min.name Lib.Math.min.code 2 (some .int), Cond.methodLink RX7 202 yX7_aimOf, Cond.instanceMethod yX7_aimOf, Cond.selects RX7 yX7_aimOf yX7_aimOf, Cond.code yX7_aimOf cX7_aimOf 5 (some .int), Cond.methodLink RX7 151 yX7_pool, Cond.instanceMethod yX7_pool, Cond.selects RX7 yX7_pool yX7_pool, Cond.code yX7_pool cX7_pool 2 (some .int), Cond.methodLink RX7 172 yX7_leftFor, Cond.instanceMethod yX7_leftFor, Cond.selects RX7 yX7_leftFor yX7_leftFor, Cond.code yX7_leftFor cX7_leftFor 5 (some .int), Cond.methodLink RX7 262 yX7_bringBack, Cond.instanceMethod yX7_bringBack, Cond.selects RX7 yX7_bringBack yX7_bringBack, Cond.code yX7_bringBack cX7_bringBack 2 none]
def wsX7_bears_r7 : List Cond := [Cond.methodLink RX7 289 yX7_deliveredJammed, Cond.instanceMethod yX7_deliveredJammed, Cond.selects RX7 yX7_deliveredJammed yX7_deliveredJammed, Cond.code yX7_deliveredJammed cX7_deliveredJammed 4 (some .int)]
def wsX7_bears : List Cond := .code yX7_bears cX7_bears 3 (some .int) :: ((wsX7_bears_r1 ++ (wsX7_bears_r2 ++ (wsX7_bears_r3 ++ (wsX7_bears_r4 ++ (wsX7_bears_r5 ++ (wsX7_bears_r6 ++ wsX7_bears_r7)))))) ++ wsX70)
def wsX7_fair_r1 : List Cond := [Cond.fieldLink RX7 49 "HopCreditsModel" "thrown" "I", Cond.fieldLink RX7 127 "HopCreditsModel" "circuits" "I", Cond.methodLink RX7 154 Lib.Math.max.name, Cond.static Lib.Math.max.name, Cond.initialized "java/lang/Math", Cond.code Lib.Math.max.name Lib.Math.max.code 2 (some .int), Cond.methodLink RX7 175 Lib.Math.min.name, Cond.static Lib.Math.min.name, Cond.code Lib.Math.min.name Lib.Math.min.code 2 (some .int), Cond.methodLink RX7 136 yX7_isNet, Cond.instanceMethod yX7_isNet, Cond.selects RX7 yX7_isNet yX7_isNet, Cond.initialized RX7, Cond.code yX7_isNet cX7_isNet 1 (some .boolean), Cond.fieldLink RX7 124 "HopCreditsModel" "hops" "I", Cond.methodLink RX7 253 yX7_isSpan, Cond.static yX7_isSpan, Cond.code yX7_isSpan cX7_isSpan 2 (some .boolean), Cond.methodLink RX7 60 yX7_in, Cond.static yX7_in, Cond.code yX7_in cX7_in 3 (some .boolean), Cond.methodLink RX7 256 yX7_putAside, Cond.instanceMethod yX7_putAside, Cond.selects RX7 yX7_putAside yX7_putAside]
def wsX7_fair_r2 : List Cond := [Cond.code yX7_putAside cX7_putAside 2 none, Cond.fieldLink RX7 37 "HopCreditsModel" "aside" "[I", Cond.fieldLink RX7 22 "HopCreditsModel" "now" "[I", Cond.methodLink RX7 268 yX7_deliveredIn, Cond.instanceMethod yX7_deliveredIn, Cond.selects RX7 yX7_deliveredIn yX7_deliveredIn, Cond.code yX7_deliveredIn cX7_deliveredIn 5 (some .int), Cond.methodLink RX7 265 yX7_deliveredOf, Cond.instanceMethod yX7_deliveredOf, Cond.selects RX7 yX7_deliveredOf yX7_deliveredOf, Cond.code yX7_deliveredOf cX7_deliveredOf 4 (some .int), Cond.methodLink RX7 147 yX7_circuitAt, Cond.static yX7_circuitAt, Cond.code yX7_circuitAt cX7_circuitAt 1 (some .int), Cond.methodLink RX7 259 yX7_goesOn, Cond.instanceMethod yX7_goesOn, Cond.selects RX7 yX7_goesOn yX7_goesOn, Cond.code yX7_goesOn cX7_goesOn 3 none, Cond.methodLink RX7 226 yX7_ticks, Cond.instanceMethod yX7_ticks, Cond.selects RX7 yX7_ticks yX7_ticks, Cond.code yX7_ticks cX7_ticks 2 none, Cond.fieldLink RX7 28 "HopCreditsModel" "rule" "[I", Cond.methodLink RX7 205 yX7_arrives]
def wsX7_fair_r3 : List Cond := [Cond.instanceMethod yX7_arrives, Cond.selects RX7 yX7_arrives yX7_arrives, Cond.code yX7_arrives cX7_arrives 6 none, Cond.methodLink RX7 140 yX7_wayAt, Cond.static yX7_wayAt, Cond.code yX7_wayAt cX7_wayAt 2 (some .int), Cond.methodLink RX7 184 yX7_bufferAt, Cond.static yX7_bufferAt, Cond.code yX7_bufferAt cX7_bufferAt 2 (some .int), Cond.methodLink RX7 163 yX7_lane, Cond.static yX7_lane, Cond.code yX7_lane cX7_lane 2 (some .int), Cond.methodLink RX7 166 yX7_less, Cond.static yX7_less, Cond.code yX7_less cX7_less 2 (some .int), Cond.methodLink RX7 159 yX7_clearsWay, Cond.instanceMethod yX7_clearsWay, Cond.selects RX7 yX7_clearsWay yX7_clearsWay, Cond.code yX7_clearsWay cX7_clearsWay 5 none, Cond.methodLink RX7 95 yX7_has, Cond.static yX7_has, Cond.code yX7_has cX7_has 2 (some .boolean), Cond.methodLink RX7 181 yX7_updates, Cond.instanceMethod yX7_updates]
def wsX7_fair_r4 : List Cond := [Cond.selects RX7 yX7_updates yX7_updates, Cond.code yX7_updates cX7_updates 3 none, Cond.methodLink RX7 178 yX7_delay, Cond.instanceMethod yX7_delay, Cond.selects RX7 yX7_delay yX7_delay, Cond.code yX7_delay cX7_delay 2 (some .int), Cond.fieldLink RX7 31 "HopCreditsModel" "hop" "[I", Cond.methodLink RX7 208 yX7_comes, Cond.instanceMethod yX7_comes, Cond.selects RX7 yX7_comes yX7_comes, Cond.code yX7_comes cX7_comes 5 none, Cond.methodLink RX7 211 yX7_isTaken, Cond.instanceMethod yX7_isTaken, Cond.selects RX7 yX7_isTaken yX7_isTaken, Cond.code yX7_isTaken cX7_isTaken 4 none, Cond.methodLink RX7 187 yX7_goesFrom, Cond.instanceMethod yX7_goesFrom, Cond.selects RX7 yX7_goesFrom yX7_goesFrom, Cond.code yX7_goesFrom cX7_goesFrom 4 none, Cond.methodLink RX7 214 yX7_sends, Cond.instanceMethod yX7_sends, Cond.selects RX7 yX7_sends yX7_sends, Cond.code yX7_sends cX7_sends 4 none, Cond.methodLink RX7 193 yX7_sender]
def wsX7_fair_r5 : List Cond := [Cond.instanceMethod yX7_sender, Cond.selects RX7 yX7_sender yX7_sender, Cond.code yX7_sender cX7_sender 5 (some .int), Cond.methodLink RX7 190 yX7_credit, Cond.instanceMethod yX7_credit, Cond.selects RX7 yX7_credit yX7_credit, Cond.code yX7_credit cX7_credit 3 (some .int), Cond.methodLink RX7 169 yX7_outOf, Cond.instanceMethod yX7_outOf, Cond.selects RX7 yX7_outOf yX7_outOf, Cond.code yX7_outOf cX7_outOf 3 (some .int), Cond.methodLink RX7 217 yX7_waits, Cond.instanceMethod yX7_waits, Cond.selects RX7 yX7_waits yX7_waits, Cond.code yX7_waits cX7_waits 4 none, Cond.methodLink RX7 196 yX7_isHeld, Cond.instanceMethod yX7_isHeld, Cond.selects RX7 yX7_isHeld yX7_isHeld, Cond.code yX7_isHeld cX7_isHeld 3 (some .boolean), Cond.methodLink RX7 199 yX7_probes, Cond.instanceMethod yX7_probes, Cond.selects RX7 yX7_probes yX7_probes, Cond.code yX7_probes cX7_probes 3 none, Cond.methodLink RX7 220 yX7_adapts]
def wsX7_fair_r6 : List Cond := [Cond.instanceMethod yX7_adapts, Cond.selects RX7 yX7_adapts yX7_adapts, Cond.code yX7_adapts cX7_adapts 4 none, Cond.fieldLink RX7 34 "HopCreditsModel" "aims" "[I", Cond.methodLink RX7 202 yX7_aimOf, Cond.instanceMethod yX7_aimOf, Cond.selects RX7 yX7_aimOf yX7_aimOf, Cond.code yX7_aimOf cX7_aimOf 5 (some .int), Cond.methodLink RX7 151 yX7_pool, Cond.instanceMethod yX7_pool, Cond.selects RX7 yX7_pool yX7_pool, Cond.code yX7_pool cX7_pool 2 (some .int), Cond.methodLink RX7 172 yX7_leftFor, Cond.instanceMethod yX7_leftFor, Cond.selects RX7 yX7_leftFor yX7_leftFor, Cond.code yX7_leftFor cX7_leftFor 5 (some .int), Cond.methodLink RX7 262 yX7_bringBack, Cond.instanceMethod yX7_bringBack, Cond.selects RX7 yX7_bringBack yX7_bringBack, Cond.code yX7_bringBack cX7_bringBack 2 none]
def wsX7_fair : List Cond := .code yX7_fair cX7_fair 6 (some .int) :: ((wsX7_fair_r1 ++ (wsX7_fair_r2 ++ (wsX7_fair_r3 ++ (wsX7_fair_r4 ++ (wsX7_fair_r5 ++ wsX7_fair_r6))))) ++ wsX70)
def wsX7_learns_r1 : List Cond := [Cond.fieldLink RX7 49 "HopCreditsModel" "thrown" "I", Cond.fieldLink RX7 22 "HopCreditsModel" "now" "[I", Cond.methodLink RX7 229 yX7_isLane, Cond.instanceMethod yX7_isLane, Cond.selects RX7 yX7_isLane yX7_isLane, Cond.initialized RX7, Cond.code yX7_isLane cX7_isLane 3 (some .boolean), Cond.methodLink RX7 130 yX7_isHop, Cond.instanceMethod yX7_isHop, Cond.selects RX7 yX7_isHop yX7_isHop, Cond.code yX7_isHop cX7_isHop 2 (some .boolean), Cond.fieldLink RX7 124 "HopCreditsModel" "hops" "I", Cond.methodLink RX7 60 yX7_in, Cond.static yX7_in, Cond.code yX7_in cX7_in 3 (some .boolean), Cond.methodLink RX7 133 yX7_isCircuit, Cond.instanceMethod yX7_isCircuit, Cond.selects RX7 yX7_isCircuit yX7_isCircuit, Cond.code yX7_isCircuit cX7_isCircuit 2 (some .boolean), Cond.fieldLink RX7 127 "HopCreditsModel" "circuits" "I", Cond.methodLink RX7 256 yX7_putAside, Cond.instanceMethod yX7_putAside, Cond.selects RX7 yX7_putAside yX7_putAside, Cond.code yX7_putAside cX7_putAside 2 none]
def wsX7_learns_r2 : List Cond := [Cond.fieldLink RX7 37 "HopCreditsModel" "aside" "[I", Cond.methodLink RX7 163 yX7_lane, Cond.static yX7_lane, Cond.code yX7_lane cX7_lane 2 (some .int), Cond.methodLink RX7 166 yX7_less, Cond.static yX7_less, Cond.code yX7_less cX7_less 2 (some .int), Cond.methodLink RX7 226 yX7_ticks, Cond.instanceMethod yX7_ticks, Cond.selects RX7 yX7_ticks yX7_ticks, Cond.code yX7_ticks cX7_ticks 2 none, Cond.fieldLink RX7 28 "HopCreditsModel" "rule" "[I", Cond.methodLink RX7 205 yX7_arrives, Cond.instanceMethod yX7_arrives, Cond.selects RX7 yX7_arrives yX7_arrives, Cond.code yX7_arrives cX7_arrives 6 none, Cond.methodLink RX7 140 yX7_wayAt, Cond.static yX7_wayAt, Cond.code yX7_wayAt cX7_wayAt 2 (some .int), Cond.methodLink RX7 184 yX7_bufferAt, Cond.static yX7_bufferAt, Cond.code yX7_bufferAt cX7_bufferAt 2 (some .int), Cond.methodLink RX7 159 yX7_clearsWay, Cond.instanceMethod yX7_clearsWay]
def wsX7_learns_r3 : List Cond := [Cond.selects RX7 yX7_clearsWay yX7_clearsWay, Cond.code yX7_clearsWay cX7_clearsWay 5 none, Cond.methodLink RX7 95 yX7_has, Cond.static yX7_has, Cond.code yX7_has cX7_has 2 (some .boolean), Cond.methodLink RX7 181 yX7_updates, Cond.instanceMethod yX7_updates, Cond.selects RX7 yX7_updates yX7_updates, Cond.code yX7_updates cX7_updates 3 none, Cond.methodLink RX7 178 yX7_delay, Cond.instanceMethod yX7_delay, Cond.selects RX7 yX7_delay yX7_delay, Cond.code yX7_delay cX7_delay 2 (some .int), Cond.fieldLink RX7 31 "HopCreditsModel" "hop" "[I", Cond.methodLink RX7 208 yX7_comes, Cond.instanceMethod yX7_comes, Cond.selects RX7 yX7_comes yX7_comes, Cond.code yX7_comes cX7_comes 5 none, Cond.methodLink RX7 147 yX7_circuitAt, Cond.static yX7_circuitAt, Cond.code yX7_circuitAt cX7_circuitAt 1 (some .int), Cond.methodLink RX7 211 yX7_isTaken, Cond.instanceMethod yX7_isTaken, Cond.selects RX7 yX7_isTaken yX7_isTaken]
def wsX7_learns_r4 : List Cond := [Cond.code yX7_isTaken cX7_isTaken 4 none, Cond.methodLink RX7 154 Lib.Math.max.name, Cond.static Lib.Math.max.name, Cond.initialized "java/lang/Math", Cond.code Lib.Math.max.name Lib.Math.max.code 2 (some .int), Cond.methodLink RX7 187 yX7_goesFrom, Cond.instanceMethod yX7_goesFrom, Cond.selects RX7 yX7_goesFrom yX7_goesFrom, Cond.code yX7_goesFrom cX7_goesFrom 4 none, Cond.methodLink RX7 214 yX7_sends, Cond.instanceMethod yX7_sends, Cond.selects RX7 yX7_sends yX7_sends, Cond.code yX7_sends cX7_sends 4 none, Cond.methodLink RX7 193 yX7_sender, Cond.instanceMethod yX7_sender, Cond.selects RX7 yX7_sender yX7_sender, Cond.code yX7_sender cX7_sender 5 (some .int), Cond.methodLink RX7 190 yX7_credit, Cond.instanceMethod yX7_credit, Cond.selects RX7 yX7_credit yX7_credit, Cond.code yX7_credit cX7_credit 3 (some .int), Cond.methodLink RX7 169 yX7_outOf, Cond.instanceMethod yX7_outOf, Cond.selects RX7 yX7_outOf yX7_outOf]
def wsX7_learns_r5 : List Cond := [Cond.code yX7_outOf cX7_outOf 3 (some .int), Cond.methodLink RX7 217 yX7_waits, Cond.instanceMethod yX7_waits, Cond.selects RX7 yX7_waits yX7_waits, Cond.code yX7_waits cX7_waits 4 none, Cond.methodLink RX7 196 yX7_isHeld, Cond.instanceMethod yX7_isHeld, Cond.selects RX7 yX7_isHeld yX7_isHeld, Cond.code yX7_isHeld cX7_isHeld 3 (some .boolean), Cond.methodLink RX7 199 yX7_probes, Cond.instanceMethod yX7_probes, Cond.selects RX7 yX7_probes yX7_probes, Cond.code yX7_probes cX7_probes 3 none, Cond.methodLink RX7 220 yX7_adapts, Cond.instanceMethod yX7_adapts, Cond.selects RX7 yX7_adapts yX7_adapts, Cond.code yX7_adapts cX7_adapts 4 none, Cond.fieldLink RX7 34 "HopCreditsModel" "aims" "[I", Cond.methodLink RX7 175 Lib.Math.min.name, Cond.static Lib.Math.min.name, Cond.code Lib.Math.min.name Lib.Math.min.code 2 (some .int), Cond.methodLink RX7 202 yX7_aimOf, Cond.instanceMethod yX7_aimOf, Cond.selects RX7 yX7_aimOf yX7_aimOf]
def wsX7_learns_r6 : List Cond := [Cond.code yX7_aimOf cX7_aimOf 5 (some .int), Cond.methodLink RX7 151 yX7_pool, Cond.instanceMethod yX7_pool, Cond.selects RX7 yX7_pool yX7_pool, Cond.code yX7_pool cX7_pool 2 (some .int), Cond.methodLink RX7 172 yX7_leftFor, Cond.instanceMethod yX7_leftFor, Cond.selects RX7 yX7_leftFor yX7_leftFor, Cond.code yX7_leftFor cX7_leftFor 5 (some .int), Cond.methodLink RX7 262 yX7_bringBack, Cond.instanceMethod yX7_bringBack, Cond.selects RX7 yX7_bringBack yX7_bringBack, Cond.code yX7_bringBack cX7_bringBack 2 none]
def wsX7_learns : List Cond := .code yX7_learns cX7_learns 5 (some .int) :: ((wsX7_learns_r1 ++ (wsX7_learns_r2 ++ (wsX7_learns_r3 ++ (wsX7_learns_r4 ++ (wsX7_learns_r5 ++ wsX7_learns_r6))))) ++ wsX70)
def wsX7_stuck_r1 : List Cond := [Cond.fieldLink RX7 49 "HopCreditsModel" "thrown" "I", Cond.fieldLink RX7 40 "HopCreditsModel" "sentNow" "[I", Cond.fieldLink RX7 124 "HopCreditsModel" "hops" "I", Cond.methodLink RX7 136 yX7_isNet, Cond.instanceMethod yX7_isNet, Cond.selects RX7 yX7_isNet yX7_isNet, Cond.initialized RX7, Cond.code yX7_isNet cX7_isNet 1 (some .boolean), Cond.methodLink RX7 292 yX7_cellsAnywhere, Cond.instanceMethod yX7_cellsAnywhere, Cond.selects RX7 yX7_cellsAnywhere yX7_cellsAnywhere, Cond.code yX7_cellsAnywhere cX7_cellsAnywhere 3 (some .int), Cond.fieldLink RX7 127 "HopCreditsModel" "circuits" "I", Cond.methodLink RX7 244 yX7_anywhere, Cond.instanceMethod yX7_anywhere, Cond.selects RX7 yX7_anywhere yX7_anywhere, Cond.code yX7_anywhere cX7_anywhere 2 (some .int), Cond.fieldLink RX7 22 "HopCreditsModel" "now" "[I", Cond.methodLink RX7 147 yX7_circuitAt, Cond.static yX7_circuitAt, Cond.code yX7_circuitAt cX7_circuitAt 1 (some .int), Cond.methodLink RX7 256 yX7_putAside, Cond.instanceMethod yX7_putAside, Cond.selects RX7 yX7_putAside yX7_putAside]
def wsX7_stuck_r2 : List Cond := [Cond.code yX7_putAside cX7_putAside 2 none, Cond.fieldLink RX7 37 "HopCreditsModel" "aside" "[I", Cond.methodLink RX7 265 yX7_deliveredOf, Cond.instanceMethod yX7_deliveredOf, Cond.selects RX7 yX7_deliveredOf yX7_deliveredOf, Cond.code yX7_deliveredOf cX7_deliveredOf 4 (some .int), Cond.methodLink RX7 271 yX7_sentOver, Cond.instanceMethod yX7_sentOver, Cond.selects RX7 yX7_sentOver yX7_sentOver, Cond.code yX7_sentOver cX7_sentOver 4 (some .int), Cond.methodLink RX7 163 yX7_lane, Cond.static yX7_lane, Cond.code yX7_lane cX7_lane 2 (some .int), Cond.methodLink RX7 226 yX7_ticks, Cond.instanceMethod yX7_ticks, Cond.selects RX7 yX7_ticks yX7_ticks, Cond.code yX7_ticks cX7_ticks 2 none, Cond.fieldLink RX7 28 "HopCreditsModel" "rule" "[I", Cond.methodLink RX7 205 yX7_arrives, Cond.instanceMethod yX7_arrives, Cond.selects RX7 yX7_arrives yX7_arrives, Cond.code yX7_arrives cX7_arrives 6 none, Cond.methodLink RX7 140 yX7_wayAt, Cond.static yX7_wayAt]
def wsX7_stuck_r3 : List Cond := [Cond.code yX7_wayAt cX7_wayAt 2 (some .int), Cond.methodLink RX7 184 yX7_bufferAt, Cond.static yX7_bufferAt, Cond.code yX7_bufferAt cX7_bufferAt 2 (some .int), Cond.methodLink RX7 166 yX7_less, Cond.static yX7_less, Cond.code yX7_less cX7_less 2 (some .int), Cond.methodLink RX7 159 yX7_clearsWay, Cond.instanceMethod yX7_clearsWay, Cond.selects RX7 yX7_clearsWay yX7_clearsWay, Cond.code yX7_clearsWay cX7_clearsWay 5 none, Cond.methodLink RX7 95 yX7_has, Cond.static yX7_has, Cond.code yX7_has cX7_has 2 (some .boolean), Cond.methodLink RX7 181 yX7_updates, Cond.instanceMethod yX7_updates, Cond.selects RX7 yX7_updates yX7_updates, Cond.code yX7_updates cX7_updates 3 none, Cond.methodLink RX7 178 yX7_delay, Cond.instanceMethod yX7_delay, Cond.selects RX7 yX7_delay yX7_delay, Cond.code yX7_delay cX7_delay 2 (some .int), Cond.fieldLink RX7 31 "HopCreditsModel" "hop" "[I", Cond.methodLink RX7 208 yX7_comes]
def wsX7_stuck_r4 : List Cond := [Cond.instanceMethod yX7_comes, Cond.selects RX7 yX7_comes yX7_comes, Cond.code yX7_comes cX7_comes 5 none, Cond.methodLink RX7 211 yX7_isTaken, Cond.instanceMethod yX7_isTaken, Cond.selects RX7 yX7_isTaken yX7_isTaken, Cond.code yX7_isTaken cX7_isTaken 4 none, Cond.methodLink RX7 154 Lib.Math.max.name, Cond.static Lib.Math.max.name, Cond.initialized "java/lang/Math", Cond.code Lib.Math.max.name Lib.Math.max.code 2 (some .int), Cond.methodLink RX7 187 yX7_goesFrom, Cond.instanceMethod yX7_goesFrom, Cond.selects RX7 yX7_goesFrom yX7_goesFrom, Cond.code yX7_goesFrom cX7_goesFrom 4 none, Cond.methodLink RX7 214 yX7_sends, Cond.instanceMethod yX7_sends, Cond.selects RX7 yX7_sends yX7_sends, Cond.code yX7_sends cX7_sends 4 none, Cond.methodLink RX7 193 yX7_sender, Cond.instanceMethod yX7_sender, Cond.selects RX7 yX7_sender yX7_sender, Cond.code yX7_sender cX7_sender 5 (some .int), Cond.methodLink RX7 190 yX7_credit]
def wsX7_stuck_r5 : List Cond := [Cond.instanceMethod yX7_credit, Cond.selects RX7 yX7_credit yX7_credit, Cond.code yX7_credit cX7_credit 3 (some .int), Cond.methodLink RX7 169 yX7_outOf, Cond.instanceMethod yX7_outOf, Cond.selects RX7 yX7_outOf yX7_outOf, Cond.code yX7_outOf cX7_outOf 3 (some .int), Cond.methodLink RX7 217 yX7_waits, Cond.instanceMethod yX7_waits, Cond.selects RX7 yX7_waits yX7_waits, Cond.code yX7_waits cX7_waits 4 none, Cond.methodLink RX7 196 yX7_isHeld, Cond.instanceMethod yX7_isHeld, Cond.selects RX7 yX7_isHeld yX7_isHeld, Cond.code yX7_isHeld cX7_isHeld 3 (some .boolean), Cond.methodLink RX7 199 yX7_probes, Cond.instanceMethod yX7_probes, Cond.selects RX7 yX7_probes yX7_probes, Cond.code yX7_probes cX7_probes 3 none, Cond.methodLink RX7 220 yX7_adapts, Cond.instanceMethod yX7_adapts, Cond.selects RX7 yX7_adapts yX7_adapts, Cond.code yX7_adapts cX7_adapts 4 none, Cond.fieldLink RX7 34 "HopCreditsModel" "aims" "[I"]
def wsX7_stuck_r6 : List Cond := [Cond.methodLink RX7 175 Lib.Math.min.name, Cond.static Lib.Math.min.name, Cond.code Lib.Math.min.name Lib.Math.min.code 2 (some .int), Cond.methodLink RX7 202 yX7_aimOf, Cond.instanceMethod yX7_aimOf, Cond.selects RX7 yX7_aimOf yX7_aimOf, Cond.code yX7_aimOf cX7_aimOf 5 (some .int), Cond.methodLink RX7 151 yX7_pool, Cond.instanceMethod yX7_pool, Cond.selects RX7 yX7_pool yX7_pool, Cond.code yX7_pool cX7_pool 2 (some .int), Cond.methodLink RX7 172 yX7_leftFor, Cond.instanceMethod yX7_leftFor, Cond.selects RX7 yX7_leftFor yX7_leftFor, Cond.code yX7_leftFor cX7_leftFor 5 (some .int), Cond.methodLink RX7 262 yX7_bringBack, Cond.instanceMethod yX7_bringBack, Cond.selects RX7 yX7_bringBack yX7_bringBack, Cond.code yX7_bringBack cX7_bringBack 2 none]
def wsX7_stuck : List Cond := .code yX7_stuck cX7_stuck 6 (some .boolean) :: ((wsX7_stuck_r1 ++ (wsX7_stuck_r2 ++ (wsX7_stuck_r3 ++ (wsX7_stuck_r4 ++ (wsX7_stuck_r5 ++ wsX7_stuck_r6))))) ++ wsX70)
def wsX7_would_r1 : List Cond := [Cond.fieldLink RX7 49 "HopCreditsModel" "thrown" "I", Cond.methodLink RX7 232 yX7_whyZone, Cond.instanceMethod yX7_whyZone, Cond.selects RX7 yX7_whyZone yX7_whyZone, Cond.initialized RX7, Cond.code yX7_whyZone cX7_whyZone 5 (some .int), Cond.fieldLink RX7 28 "HopCreditsModel" "rule" "[I", Cond.fieldLink RX7 22 "HopCreditsModel" "now" "[I", Cond.methodLink RX7 229 yX7_isLane, Cond.instanceMethod yX7_isLane, Cond.selects RX7 yX7_isLane yX7_isLane, Cond.code yX7_isLane cX7_isLane 3 (some .boolean), Cond.methodLink RX7 130 yX7_isHop, Cond.instanceMethod yX7_isHop, Cond.selects RX7 yX7_isHop yX7_isHop, Cond.code yX7_isHop cX7_isHop 2 (some .boolean), Cond.fieldLink RX7 124 "HopCreditsModel" "hops" "I", Cond.methodLink RX7 60 yX7_in, Cond.static yX7_in, Cond.code yX7_in cX7_in 3 (some .boolean), Cond.methodLink RX7 133 yX7_isCircuit, Cond.instanceMethod yX7_isCircuit, Cond.selects RX7 yX7_isCircuit yX7_isCircuit, Cond.code yX7_isCircuit cX7_isCircuit 2 (some .boolean)]
def wsX7_would_r2 : List Cond := [Cond.fieldLink RX7 127 "HopCreditsModel" "circuits" "I", Cond.methodLink RX7 151 yX7_pool, Cond.instanceMethod yX7_pool, Cond.selects RX7 yX7_pool yX7_pool, Cond.code yX7_pool cX7_pool 2 (some .int), Cond.fieldLink RX7 31 "HopCreditsModel" "hop" "[I", Cond.methodLink RX7 163 yX7_lane, Cond.static yX7_lane, Cond.code yX7_lane cX7_lane 2 (some .int), Cond.methodLink RX7 172 yX7_leftFor, Cond.instanceMethod yX7_leftFor, Cond.selects RX7 yX7_leftFor yX7_leftFor, Cond.code yX7_leftFor cX7_leftFor 5 (some .int), Cond.methodLink RX7 154 Lib.Math.max.name, Cond.static Lib.Math.max.name, Cond.initialized "java/lang/Math", Cond.code Lib.Math.max.name Lib.Math.max.code 2 (some .int), Cond.methodLink RX7 169 yX7_outOf, Cond.instanceMethod yX7_outOf, Cond.selects RX7 yX7_outOf yX7_outOf, Cond.code yX7_outOf cX7_outOf 3 (some .int), Cond.methodLink RX7 166 yX7_less, Cond.static yX7_less, Cond.code yX7_less cX7_less 2 (some .int)]
def wsX7_would_r3 : List Cond := [Cond.methodLink RX7 253 yX7_isSpan, Cond.static yX7_isSpan, Cond.code yX7_isSpan cX7_isSpan 2 (some .boolean), Cond.methodLink RX7 295 yX7_deliveredByZone, Cond.instanceMethod yX7_deliveredByZone, Cond.selects RX7 yX7_deliveredByZone yX7_deliveredByZone, Cond.code yX7_deliveredByZone cX7_deliveredByZone 5 (some .int), Cond.methodLink RX7 256 yX7_putAside, Cond.instanceMethod yX7_putAside, Cond.selects RX7 yX7_putAside yX7_putAside, Cond.code yX7_putAside cX7_putAside 2 none, Cond.fieldLink RX7 37 "HopCreditsModel" "aside" "[I", Cond.methodLink RX7 268 yX7_deliveredIn, Cond.instanceMethod yX7_deliveredIn, Cond.selects RX7 yX7_deliveredIn yX7_deliveredIn, Cond.code yX7_deliveredIn cX7_deliveredIn 5 (some .int), Cond.methodLink RX7 265 yX7_deliveredOf, Cond.instanceMethod yX7_deliveredOf, Cond.selects RX7 yX7_deliveredOf yX7_deliveredOf, Cond.code yX7_deliveredOf cX7_deliveredOf 4 (some .int), Cond.methodLink RX7 147 yX7_circuitAt, Cond.static yX7_circuitAt, Cond.code yX7_circuitAt cX7_circuitAt 1 (some .int), Cond.methodLink RX7 259 yX7_goesOn]
def wsX7_would_r4 : List Cond := [Cond.instanceMethod yX7_goesOn, Cond.selects RX7 yX7_goesOn yX7_goesOn, Cond.code yX7_goesOn cX7_goesOn 3 none, Cond.methodLink RX7 226 yX7_ticks, Cond.instanceMethod yX7_ticks, Cond.selects RX7 yX7_ticks yX7_ticks, Cond.code yX7_ticks cX7_ticks 2 none, Cond.methodLink RX7 205 yX7_arrives, Cond.instanceMethod yX7_arrives, Cond.selects RX7 yX7_arrives yX7_arrives, Cond.code yX7_arrives cX7_arrives 6 none, Cond.methodLink RX7 140 yX7_wayAt, Cond.static yX7_wayAt, Cond.code yX7_wayAt cX7_wayAt 2 (some .int), Cond.methodLink RX7 184 yX7_bufferAt, Cond.static yX7_bufferAt, Cond.code yX7_bufferAt cX7_bufferAt 2 (some .int), Cond.methodLink RX7 159 yX7_clearsWay, Cond.instanceMethod yX7_clearsWay, Cond.selects RX7 yX7_clearsWay yX7_clearsWay, Cond.code yX7_clearsWay cX7_clearsWay 5 none, Cond.methodLink RX7 95 yX7_has, Cond.static yX7_has, Cond.code yX7_has cX7_has 2 (some .boolean)]
def wsX7_would_r5 : List Cond := [Cond.methodLink RX7 181 yX7_updates, Cond.instanceMethod yX7_updates, Cond.selects RX7 yX7_updates yX7_updates, Cond.code yX7_updates cX7_updates 3 none, Cond.methodLink RX7 178 yX7_delay, Cond.instanceMethod yX7_delay, Cond.selects RX7 yX7_delay yX7_delay, Cond.code yX7_delay cX7_delay 2 (some .int), Cond.methodLink RX7 208 yX7_comes, Cond.instanceMethod yX7_comes, Cond.selects RX7 yX7_comes yX7_comes, Cond.code yX7_comes cX7_comes 5 none, Cond.methodLink RX7 211 yX7_isTaken, Cond.instanceMethod yX7_isTaken, Cond.selects RX7 yX7_isTaken yX7_isTaken, Cond.code yX7_isTaken cX7_isTaken 4 none, Cond.methodLink RX7 187 yX7_goesFrom, Cond.instanceMethod yX7_goesFrom, Cond.selects RX7 yX7_goesFrom yX7_goesFrom, Cond.code yX7_goesFrom cX7_goesFrom 4 none, Cond.methodLink RX7 214 yX7_sends, Cond.instanceMethod yX7_sends, Cond.selects RX7 yX7_sends yX7_sends, Cond.code yX7_sends cX7_sends 4 none]
def wsX7_would_r6 : List Cond := [Cond.methodLink RX7 193 yX7_sender, Cond.instanceMethod yX7_sender, Cond.selects RX7 yX7_sender yX7_sender, Cond.code yX7_sender cX7_sender 5 (some .int), Cond.methodLink RX7 190 yX7_credit, Cond.instanceMethod yX7_credit, Cond.selects RX7 yX7_credit yX7_credit, Cond.code yX7_credit cX7_credit 3 (some .int), Cond.methodLink RX7 217 yX7_waits, Cond.instanceMethod yX7_waits, Cond.selects RX7 yX7_waits yX7_waits, Cond.code yX7_waits cX7_waits 4 none, Cond.methodLink RX7 196 yX7_isHeld, Cond.instanceMethod yX7_isHeld, Cond.selects RX7 yX7_isHeld yX7_isHeld, Cond.code yX7_isHeld cX7_isHeld 3 (some .boolean), Cond.methodLink RX7 199 yX7_probes, Cond.instanceMethod yX7_probes, Cond.selects RX7 yX7_probes yX7_probes, Cond.code yX7_probes cX7_probes 3 none, Cond.methodLink RX7 220 yX7_adapts, Cond.instanceMethod yX7_adapts, Cond.selects RX7 yX7_adapts yX7_adapts, Cond.code yX7_adapts cX7_adapts 4 none]
def wsX7_would_r7 : List Cond := [Cond.fieldLink RX7 34 "HopCreditsModel" "aims" "[I", Cond.methodLink RX7 175 Lib.Math.min.name, Cond.static Lib.Math.min.name, Cond.code Lib.Math.min.name Lib.Math.min.code 2 (some .int), Cond.methodLink RX7 202 yX7_aimOf, Cond.instanceMethod yX7_aimOf, Cond.selects RX7 yX7_aimOf yX7_aimOf, Cond.code yX7_aimOf cX7_aimOf 5 (some .int), Cond.methodLink RX7 262 yX7_bringBack, Cond.instanceMethod yX7_bringBack, Cond.selects RX7 yX7_bringBack yX7_bringBack, Cond.code yX7_bringBack cX7_bringBack 2 none]
def wsX7_would : List Cond := .code yX7_would cX7_would 5 (some .int) :: ((wsX7_would_r1 ++ (wsX7_would_r2 ++ (wsX7_would_r3 ++ (wsX7_would_r4 ++ (wsX7_would_r5 ++ (wsX7_would_r6 ++ wsX7_would_r7)))))) ++ wsX70)
def wsX7_bestZone_r1 : List Cond := [Cond.fieldLink RX7 49 "HopCreditsModel" "thrown" "I", Cond.fieldLink RX7 22 "HopCreditsModel" "now" "[I", Cond.methodLink RX7 154 Lib.Math.max.name, Cond.static Lib.Math.max.name, Cond.initialized "java/lang/Math", Cond.code Lib.Math.max.name Lib.Math.max.code 2 (some .int), Cond.methodLink RX7 229 yX7_isLane, Cond.instanceMethod yX7_isLane, Cond.selects RX7 yX7_isLane yX7_isLane, Cond.initialized RX7, Cond.code yX7_isLane cX7_isLane 3 (some .boolean), Cond.methodLink RX7 130 yX7_isHop, Cond.instanceMethod yX7_isHop, Cond.selects RX7 yX7_isHop yX7_isHop, Cond.code yX7_isHop cX7_isHop 2 (some .boolean), Cond.fieldLink RX7 124 "HopCreditsModel" "hops" "I", Cond.methodLink RX7 60 yX7_in, Cond.static yX7_in, Cond.code yX7_in cX7_in 3 (some .boolean), Cond.methodLink RX7 133 yX7_isCircuit, Cond.instanceMethod yX7_isCircuit, Cond.selects RX7 yX7_isCircuit yX7_isCircuit, Cond.code yX7_isCircuit cX7_isCircuit 2 (some .boolean), Cond.fieldLink RX7 127 "HopCreditsModel" "circuits" "I"]
def wsX7_bestZone_r2 : List Cond := [Cond.methodLink RX7 151 yX7_pool, Cond.instanceMethod yX7_pool, Cond.selects RX7 yX7_pool yX7_pool, Cond.code yX7_pool cX7_pool 2 (some .int), Cond.fieldLink RX7 31 "HopCreditsModel" "hop" "[I", Cond.methodLink RX7 232 yX7_whyZone, Cond.instanceMethod yX7_whyZone, Cond.selects RX7 yX7_whyZone yX7_whyZone, Cond.code yX7_whyZone cX7_whyZone 5 (some .int), Cond.fieldLink RX7 28 "HopCreditsModel" "rule" "[I", Cond.methodLink RX7 163 yX7_lane, Cond.static yX7_lane, Cond.code yX7_lane cX7_lane 2 (some .int), Cond.methodLink RX7 172 yX7_leftFor, Cond.instanceMethod yX7_leftFor, Cond.selects RX7 yX7_leftFor yX7_leftFor, Cond.code yX7_leftFor cX7_leftFor 5 (some .int), Cond.methodLink RX7 169 yX7_outOf, Cond.instanceMethod yX7_outOf, Cond.selects RX7 yX7_outOf yX7_outOf, Cond.code yX7_outOf cX7_outOf 3 (some .int), Cond.methodLink RX7 166 yX7_less, Cond.static yX7_less, Cond.code yX7_less cX7_less 2 (some .int)]
def wsX7_bestZone_r3 : List Cond := [Cond.methodLink RX7 295 yX7_deliveredByZone, Cond.instanceMethod yX7_deliveredByZone, Cond.selects RX7 yX7_deliveredByZone yX7_deliveredByZone, Cond.code yX7_deliveredByZone cX7_deliveredByZone 5 (some .int), Cond.methodLink RX7 256 yX7_putAside, Cond.instanceMethod yX7_putAside, Cond.selects RX7 yX7_putAside yX7_putAside, Cond.code yX7_putAside cX7_putAside 2 none, Cond.fieldLink RX7 37 "HopCreditsModel" "aside" "[I", Cond.methodLink RX7 268 yX7_deliveredIn, Cond.instanceMethod yX7_deliveredIn, Cond.selects RX7 yX7_deliveredIn yX7_deliveredIn, Cond.code yX7_deliveredIn cX7_deliveredIn 5 (some .int), Cond.methodLink RX7 265 yX7_deliveredOf, Cond.instanceMethod yX7_deliveredOf, Cond.selects RX7 yX7_deliveredOf yX7_deliveredOf, Cond.code yX7_deliveredOf cX7_deliveredOf 4 (some .int), Cond.methodLink RX7 147 yX7_circuitAt, Cond.static yX7_circuitAt, Cond.code yX7_circuitAt cX7_circuitAt 1 (some .int), Cond.methodLink RX7 259 yX7_goesOn, Cond.instanceMethod yX7_goesOn, Cond.selects RX7 yX7_goesOn yX7_goesOn, Cond.code yX7_goesOn cX7_goesOn 3 none]
def wsX7_bestZone_r4 : List Cond := [Cond.methodLink RX7 226 yX7_ticks, Cond.instanceMethod yX7_ticks, Cond.selects RX7 yX7_ticks yX7_ticks, Cond.code yX7_ticks cX7_ticks 2 none, Cond.methodLink RX7 205 yX7_arrives, Cond.instanceMethod yX7_arrives, Cond.selects RX7 yX7_arrives yX7_arrives, Cond.code yX7_arrives cX7_arrives 6 none, Cond.methodLink RX7 140 yX7_wayAt, Cond.static yX7_wayAt, Cond.code yX7_wayAt cX7_wayAt 2 (some .int), Cond.methodLink RX7 184 yX7_bufferAt, Cond.static yX7_bufferAt, Cond.code yX7_bufferAt cX7_bufferAt 2 (some .int), Cond.methodLink RX7 159 yX7_clearsWay, Cond.instanceMethod yX7_clearsWay, Cond.selects RX7 yX7_clearsWay yX7_clearsWay, Cond.code yX7_clearsWay cX7_clearsWay 5 none, Cond.methodLink RX7 95 yX7_has, Cond.static yX7_has, Cond.code yX7_has cX7_has 2 (some .boolean), Cond.methodLink RX7 181 yX7_updates, Cond.instanceMethod yX7_updates, Cond.selects RX7 yX7_updates yX7_updates]
def wsX7_bestZone_r5 : List Cond := [Cond.code yX7_updates cX7_updates 3 none, Cond.methodLink RX7 178 yX7_delay, Cond.instanceMethod yX7_delay, Cond.selects RX7 yX7_delay yX7_delay, Cond.code yX7_delay cX7_delay 2 (some .int), Cond.methodLink RX7 208 yX7_comes, Cond.instanceMethod yX7_comes, Cond.selects RX7 yX7_comes yX7_comes, Cond.code yX7_comes cX7_comes 5 none, Cond.methodLink RX7 211 yX7_isTaken, Cond.instanceMethod yX7_isTaken, Cond.selects RX7 yX7_isTaken yX7_isTaken, Cond.code yX7_isTaken cX7_isTaken 4 none, Cond.methodLink RX7 187 yX7_goesFrom, Cond.instanceMethod yX7_goesFrom, Cond.selects RX7 yX7_goesFrom yX7_goesFrom, Cond.code yX7_goesFrom cX7_goesFrom 4 none, Cond.methodLink RX7 214 yX7_sends, Cond.instanceMethod yX7_sends, Cond.selects RX7 yX7_sends yX7_sends, Cond.code yX7_sends cX7_sends 4 none, Cond.methodLink RX7 193 yX7_sender, Cond.instanceMethod yX7_sender, Cond.selects RX7 yX7_sender yX7_sender]
def wsX7_bestZone_r6 : List Cond := [Cond.code yX7_sender cX7_sender 5 (some .int), Cond.methodLink RX7 190 yX7_credit, Cond.instanceMethod yX7_credit, Cond.selects RX7 yX7_credit yX7_credit, Cond.code yX7_credit cX7_credit 3 (some .int), Cond.methodLink RX7 217 yX7_waits, Cond.instanceMethod yX7_waits, Cond.selects RX7 yX7_waits yX7_waits, Cond.code yX7_waits cX7_waits 4 none, Cond.methodLink RX7 196 yX7_isHeld, Cond.instanceMethod yX7_isHeld, Cond.selects RX7 yX7_isHeld yX7_isHeld, Cond.code yX7_isHeld cX7_isHeld 3 (some .boolean), Cond.methodLink RX7 199 yX7_probes, Cond.instanceMethod yX7_probes, Cond.selects RX7 yX7_probes yX7_probes, Cond.code yX7_probes cX7_probes 3 none, Cond.methodLink RX7 220 yX7_adapts, Cond.instanceMethod yX7_adapts, Cond.selects RX7 yX7_adapts yX7_adapts, Cond.code yX7_adapts cX7_adapts 4 none, Cond.fieldLink RX7 34 "HopCreditsModel" "aims" "[I", Cond.methodLink RX7 175 Lib.Math.min.name, Cond.static Lib.Math.min.name]
def wsX7_bestZone_r7 : List Cond := [Cond.code Lib.Math.min.name Lib.Math.min.code 2 (some .int), Cond.methodLink RX7 202 yX7_aimOf, Cond.instanceMethod yX7_aimOf, Cond.selects RX7 yX7_aimOf yX7_aimOf, Cond.code yX7_aimOf cX7_aimOf 5 (some .int), Cond.methodLink RX7 262 yX7_bringBack, Cond.instanceMethod yX7_bringBack, Cond.selects RX7 yX7_bringBack yX7_bringBack, Cond.code yX7_bringBack cX7_bringBack 2 none]
def wsX7_bestZone : List Cond := .code yX7_bestZone cX7_bestZone 10 (some .int) :: ((wsX7_bestZone_r1 ++ (wsX7_bestZone_r2 ++ (wsX7_bestZone_r3 ++ (wsX7_bestZone_r4 ++ (wsX7_bestZone_r5 ++ (wsX7_bestZone_r6 ++ wsX7_bestZone_r7)))))) ++ wsX70)
def wsX7_waits__r1 : List Cond := [Cond.fieldLink RX7 49 "HopCreditsModel" "thrown" "I", Cond.methodLink RX7 229 yX7_isLane, Cond.instanceMethod yX7_isLane, Cond.selects RX7 yX7_isLane yX7_isLane, Cond.initialized RX7, Cond.code yX7_isLane cX7_isLane 3 (some .boolean), Cond.methodLink RX7 130 yX7_isHop, Cond.instanceMethod yX7_isHop, Cond.selects RX7 yX7_isHop yX7_isHop, Cond.code yX7_isHop cX7_isHop 2 (some .boolean), Cond.fieldLink RX7 124 "HopCreditsModel" "hops" "I", Cond.methodLink RX7 60 yX7_in, Cond.static yX7_in, Cond.code yX7_in cX7_in 3 (some .boolean), Cond.methodLink RX7 133 yX7_isCircuit, Cond.instanceMethod yX7_isCircuit, Cond.selects RX7 yX7_isCircuit yX7_isCircuit, Cond.code yX7_isCircuit cX7_isCircuit 2 (some .boolean), Cond.fieldLink RX7 127 "HopCreditsModel" "circuits" "I", Cond.methodLink RX7 253 yX7_isSpan, Cond.static yX7_isSpan, Cond.code yX7_isSpan cX7_isSpan 2 (some .boolean), Cond.methodLink RX7 299 yX7_waitsOf, Cond.instanceMethod yX7_waitsOf]
def wsX7_waits__r2 : List Cond := [Cond.selects RX7 yX7_waitsOf yX7_waitsOf, Cond.code yX7_waitsOf cX7_waitsOf 6 (some .int), Cond.methodLink RX7 256 yX7_putAside, Cond.instanceMethod yX7_putAside, Cond.selects RX7 yX7_putAside yX7_putAside, Cond.code yX7_putAside cX7_putAside 2 none, Cond.fieldLink RX7 37 "HopCreditsModel" "aside" "[I", Cond.fieldLink RX7 22 "HopCreditsModel" "now" "[I", Cond.methodLink RX7 226 yX7_ticks, Cond.instanceMethod yX7_ticks, Cond.selects RX7 yX7_ticks yX7_ticks, Cond.code yX7_ticks cX7_ticks 2 none, Cond.fieldLink RX7 28 "HopCreditsModel" "rule" "[I", Cond.methodLink RX7 205 yX7_arrives, Cond.instanceMethod yX7_arrives, Cond.selects RX7 yX7_arrives yX7_arrives, Cond.code yX7_arrives cX7_arrives 6 none, Cond.methodLink RX7 140 yX7_wayAt, Cond.static yX7_wayAt, Cond.code yX7_wayAt cX7_wayAt 2 (some .int), Cond.methodLink RX7 184 yX7_bufferAt, Cond.static yX7_bufferAt, Cond.code yX7_bufferAt cX7_bufferAt 2 (some .int), Cond.methodLink RX7 163 yX7_lane]
def wsX7_waits__r3 : List Cond := [Cond.static yX7_lane, Cond.code yX7_lane cX7_lane 2 (some .int), Cond.methodLink RX7 166 yX7_less, Cond.static yX7_less, Cond.code yX7_less cX7_less 2 (some .int), Cond.methodLink RX7 159 yX7_clearsWay, Cond.instanceMethod yX7_clearsWay, Cond.selects RX7 yX7_clearsWay yX7_clearsWay, Cond.code yX7_clearsWay cX7_clearsWay 5 none, Cond.methodLink RX7 95 yX7_has, Cond.static yX7_has, Cond.code yX7_has cX7_has 2 (some .boolean), Cond.methodLink RX7 181 yX7_updates, Cond.instanceMethod yX7_updates, Cond.selects RX7 yX7_updates yX7_updates, Cond.code yX7_updates cX7_updates 3 none, Cond.methodLink RX7 178 yX7_delay, Cond.instanceMethod yX7_delay, Cond.selects RX7 yX7_delay yX7_delay, Cond.code yX7_delay cX7_delay 2 (some .int), Cond.fieldLink RX7 31 "HopCreditsModel" "hop" "[I", Cond.methodLink RX7 208 yX7_comes, Cond.instanceMethod yX7_comes, Cond.selects RX7 yX7_comes yX7_comes]
def wsX7_waits__r4 : List Cond := [Cond.code yX7_comes cX7_comes 5 none, Cond.methodLink RX7 147 yX7_circuitAt, Cond.static yX7_circuitAt, Cond.code yX7_circuitAt cX7_circuitAt 1 (some .int), Cond.methodLink RX7 211 yX7_isTaken, Cond.instanceMethod yX7_isTaken, Cond.selects RX7 yX7_isTaken yX7_isTaken, Cond.code yX7_isTaken cX7_isTaken 4 none, Cond.methodLink RX7 154 Lib.Math.max.name, Cond.static Lib.Math.max.name, Cond.initialized "java/lang/Math", Cond.code Lib.Math.max.name Lib.Math.max.code 2 (some .int), Cond.methodLink RX7 187 yX7_goesFrom, Cond.instanceMethod yX7_goesFrom, Cond.selects RX7 yX7_goesFrom yX7_goesFrom, Cond.code yX7_goesFrom cX7_goesFrom 4 none, Cond.methodLink RX7 214 yX7_sends, Cond.instanceMethod yX7_sends, Cond.selects RX7 yX7_sends yX7_sends, Cond.code yX7_sends cX7_sends 4 none, Cond.methodLink RX7 193 yX7_sender, Cond.instanceMethod yX7_sender, Cond.selects RX7 yX7_sender yX7_sender, Cond.code yX7_sender cX7_sender 5 (some .int)]
def wsX7_waits__r5 : List Cond := [Cond.methodLink RX7 190 yX7_credit, Cond.instanceMethod yX7_credit, Cond.selects RX7 yX7_credit yX7_credit, Cond.code yX7_credit cX7_credit 3 (some .int), Cond.methodLink RX7 169 yX7_outOf, Cond.instanceMethod yX7_outOf, Cond.selects RX7 yX7_outOf yX7_outOf, Cond.code yX7_outOf cX7_outOf 3 (some .int), Cond.methodLink RX7 217 yX7_waits, Cond.instanceMethod yX7_waits, Cond.selects RX7 yX7_waits yX7_waits, Cond.code yX7_waits cX7_waits 4 none, Cond.methodLink RX7 196 yX7_isHeld, Cond.instanceMethod yX7_isHeld, Cond.selects RX7 yX7_isHeld yX7_isHeld, Cond.code yX7_isHeld cX7_isHeld 3 (some .boolean), Cond.methodLink RX7 199 yX7_probes, Cond.instanceMethod yX7_probes, Cond.selects RX7 yX7_probes yX7_probes, Cond.code yX7_probes cX7_probes 3 none, Cond.methodLink RX7 220 yX7_adapts, Cond.instanceMethod yX7_adapts, Cond.selects RX7 yX7_adapts yX7_adapts, Cond.code yX7_adapts cX7_adapts 4 none]
def wsX7_waits__r6 : List Cond := [Cond.fieldLink RX7 34 "HopCreditsModel" "aims" "[I", Cond.methodLink RX7 175 Lib.Math.min.name, Cond.static Lib.Math.min.name, Cond.code Lib.Math.min.name Lib.Math.min.code 2 (some .int), Cond.methodLink RX7 202 yX7_aimOf, Cond.instanceMethod yX7_aimOf, Cond.selects RX7 yX7_aimOf yX7_aimOf, Cond.code yX7_aimOf cX7_aimOf 5 (some .int), Cond.methodLink RX7 151 yX7_pool, Cond.instanceMethod yX7_pool, Cond.selects RX7 yX7_pool yX7_pool, Cond.code yX7_pool cX7_pool 2 (some .int), Cond.methodLink RX7 172 yX7_leftFor, Cond.instanceMethod yX7_leftFor, Cond.selects RX7 yX7_leftFor yX7_leftFor, Cond.code yX7_leftFor cX7_leftFor 5 (some .int), Cond.methodLink RX7 262 yX7_bringBack, Cond.instanceMethod yX7_bringBack, Cond.selects RX7 yX7_bringBack yX7_bringBack, Cond.code yX7_bringBack cX7_bringBack 2 none]
def wsX7_waits_ : List Cond := .code yX7_waits_ cX7_waits_ 4 (some .int) :: ((wsX7_waits__r1 ++ (wsX7_waits__r2 ++ (wsX7_waits__r3 ++ (wsX7_waits__r4 ++ (wsX7_waits__r5 ++ wsX7_waits__r6))))) ++ wsX70)
def wsX7_worst_r1 : List Cond := [Cond.fieldLink RX7 49 "HopCreditsModel" "thrown" "I", Cond.fieldLink RX7 124 "HopCreditsModel" "hops" "I", Cond.methodLink RX7 154 Lib.Math.max.name, Cond.static Lib.Math.max.name, Cond.initialized "java/lang/Math", Cond.code Lib.Math.max.name Lib.Math.max.code 2 (some .int), Cond.methodLink RX7 133 yX7_isCircuit, Cond.instanceMethod yX7_isCircuit, Cond.selects RX7 yX7_isCircuit yX7_isCircuit, Cond.initialized RX7, Cond.code yX7_isCircuit cX7_isCircuit 2 (some .boolean), Cond.fieldLink RX7 127 "HopCreditsModel" "circuits" "I", Cond.methodLink RX7 60 yX7_in, Cond.static yX7_in, Cond.code yX7_in cX7_in 3 (some .boolean), Cond.methodLink RX7 253 yX7_isSpan, Cond.static yX7_isSpan, Cond.code yX7_isSpan cX7_isSpan 2 (some .boolean), Cond.methodLink RX7 299 yX7_waitsOf, Cond.instanceMethod yX7_waitsOf, Cond.selects RX7 yX7_waitsOf yX7_waitsOf, Cond.code yX7_waitsOf cX7_waitsOf 6 (some .int), Cond.methodLink RX7 256 yX7_putAside, Cond.instanceMethod yX7_putAside]
def wsX7_worst_r2 : List Cond := [Cond.selects RX7 yX7_putAside yX7_putAside, Cond.code yX7_putAside cX7_putAside 2 none, Cond.fieldLink RX7 37 "HopCreditsModel" "aside" "[I", Cond.fieldLink RX7 22 "HopCreditsModel" "now" "[I", Cond.methodLink RX7 226 yX7_ticks, Cond.instanceMethod yX7_ticks, Cond.selects RX7 yX7_ticks yX7_ticks, Cond.code yX7_ticks cX7_ticks 2 none, Cond.fieldLink RX7 28 "HopCreditsModel" "rule" "[I", Cond.methodLink RX7 205 yX7_arrives, Cond.instanceMethod yX7_arrives, Cond.selects RX7 yX7_arrives yX7_arrives, Cond.code yX7_arrives cX7_arrives 6 none, Cond.methodLink RX7 140 yX7_wayAt, Cond.static yX7_wayAt, Cond.code yX7_wayAt cX7_wayAt 2 (some .int), Cond.methodLink RX7 184 yX7_bufferAt, Cond.static yX7_bufferAt, Cond.code yX7_bufferAt cX7_bufferAt 2 (some .int), Cond.methodLink RX7 163 yX7_lane, Cond.static yX7_lane, Cond.code yX7_lane cX7_lane 2 (some .int), Cond.methodLink RX7 166 yX7_less, Cond.static yX7_less]
def wsX7_worst_r3 : List Cond := [Cond.code yX7_less cX7_less 2 (some .int), Cond.methodLink RX7 159 yX7_clearsWay, Cond.instanceMethod yX7_clearsWay, Cond.selects RX7 yX7_clearsWay yX7_clearsWay, Cond.code yX7_clearsWay cX7_clearsWay 5 none, Cond.methodLink RX7 95 yX7_has, Cond.static yX7_has, Cond.code yX7_has cX7_has 2 (some .boolean), Cond.methodLink RX7 181 yX7_updates, Cond.instanceMethod yX7_updates, Cond.selects RX7 yX7_updates yX7_updates, Cond.code yX7_updates cX7_updates 3 none, Cond.methodLink RX7 178 yX7_delay, Cond.instanceMethod yX7_delay, Cond.selects RX7 yX7_delay yX7_delay, Cond.code yX7_delay cX7_delay 2 (some .int), Cond.fieldLink RX7 31 "HopCreditsModel" "hop" "[I", Cond.methodLink RX7 208 yX7_comes, Cond.instanceMethod yX7_comes, Cond.selects RX7 yX7_comes yX7_comes, Cond.code yX7_comes cX7_comes 5 none, Cond.methodLink RX7 147 yX7_circuitAt, Cond.static yX7_circuitAt, Cond.code yX7_circuitAt cX7_circuitAt 1 (some .int)]
def wsX7_worst_r4 : List Cond := [Cond.methodLink RX7 211 yX7_isTaken, Cond.instanceMethod yX7_isTaken, Cond.selects RX7 yX7_isTaken yX7_isTaken, Cond.code yX7_isTaken cX7_isTaken 4 none, Cond.methodLink RX7 187 yX7_goesFrom, Cond.instanceMethod yX7_goesFrom, Cond.selects RX7 yX7_goesFrom yX7_goesFrom, Cond.code yX7_goesFrom cX7_goesFrom 4 none, Cond.methodLink RX7 214 yX7_sends, Cond.instanceMethod yX7_sends, Cond.selects RX7 yX7_sends yX7_sends, Cond.code yX7_sends cX7_sends 4 none, Cond.methodLink RX7 193 yX7_sender, Cond.instanceMethod yX7_sender, Cond.selects RX7 yX7_sender yX7_sender, Cond.code yX7_sender cX7_sender 5 (some .int), Cond.methodLink RX7 190 yX7_credit, Cond.instanceMethod yX7_credit, Cond.selects RX7 yX7_credit yX7_credit, Cond.code yX7_credit cX7_credit 3 (some .int), Cond.methodLink RX7 169 yX7_outOf, Cond.instanceMethod yX7_outOf, Cond.selects RX7 yX7_outOf yX7_outOf, Cond.code yX7_outOf cX7_outOf 3 (some .int)]
def wsX7_worst_r5 : List Cond := [Cond.methodLink RX7 217 yX7_waits, Cond.instanceMethod yX7_waits, Cond.selects RX7 yX7_waits yX7_waits, Cond.code yX7_waits cX7_waits 4 none, Cond.methodLink RX7 196 yX7_isHeld, Cond.instanceMethod yX7_isHeld, Cond.selects RX7 yX7_isHeld yX7_isHeld, Cond.code yX7_isHeld cX7_isHeld 3 (some .boolean), Cond.methodLink RX7 199 yX7_probes, Cond.instanceMethod yX7_probes, Cond.selects RX7 yX7_probes yX7_probes, Cond.code yX7_probes cX7_probes 3 none, Cond.methodLink RX7 220 yX7_adapts, Cond.instanceMethod yX7_adapts, Cond.selects RX7 yX7_adapts yX7_adapts, Cond.code yX7_adapts cX7_adapts 4 none, Cond.fieldLink RX7 34 "HopCreditsModel" "aims" "[I", Cond.methodLink RX7 175 Lib.Math.min.name, Cond.static Lib.Math.min.name, Cond.code Lib.Math.min.name Lib.Math.min.code 2 (some .int), Cond.methodLink RX7 202 yX7_aimOf, Cond.instanceMethod yX7_aimOf, Cond.selects RX7 yX7_aimOf yX7_aimOf, Cond.code yX7_aimOf cX7_aimOf 5 (some .int)]
def wsX7_worst_r6 : List Cond := [Cond.methodLink RX7 151 yX7_pool, Cond.instanceMethod yX7_pool, Cond.selects RX7 yX7_pool yX7_pool, Cond.code yX7_pool cX7_pool 2 (some .int), Cond.methodLink RX7 172 yX7_leftFor, Cond.instanceMethod yX7_leftFor, Cond.selects RX7 yX7_leftFor yX7_leftFor, Cond.code yX7_leftFor cX7_leftFor 5 (some .int), Cond.methodLink RX7 262 yX7_bringBack, Cond.instanceMethod yX7_bringBack, Cond.selects RX7 yX7_bringBack yX7_bringBack, Cond.code yX7_bringBack cX7_bringBack 2 none]
def wsX7_worst : List Cond := .code yX7_worst cX7_worst 7 (some .int) :: ((wsX7_worst_r1 ++ (wsX7_worst_r2 ++ (wsX7_worst_r3 ++ (wsX7_worst_r4 ++ (wsX7_worst_r5 ++ wsX7_worst_r6))))) ++ wsX70)
def wsX7_aloneSent : List Cond := .code yX7_aloneSent cX7_aloneSent 13 (some .int) :: ([.fieldLink RX7 43 "HopCreditsModel" "aloneCell" "[I", .fieldLink RX7 46 "HopCreditsModel" "aloneTold" "[I"] ++ wsX70)
def wsX7_isAlone : List Cond := .code yX7_isAlone cX7_isAlone 4 (some .boolean) :: ([.methodLink RX7 60 yX7_in, .static yX7_in, .initialized RX7, .code yX7_in cX7_in 3 (some .boolean), .methodLink RX7 253 yX7_isSpan, .static yX7_isSpan, .code yX7_isSpan cX7_isSpan 2 (some .boolean)])
def wsX7_alone : List Cond := .code yX7_alone cX7_alone 6 (some .int) :: ([.fieldLink RX7 49 "HopCreditsModel" "thrown" "I", .methodLink RX7 302 yX7_isAlone, .static yX7_isAlone, .initialized RX7, .code yX7_isAlone cX7_isAlone 4 (some .boolean), .methodLink RX7 60 yX7_in, .static yX7_in, .code yX7_in cX7_in 3 (some .boolean), .methodLink RX7 253 yX7_isSpan, .static yX7_isSpan, .code yX7_isSpan cX7_isSpan 2 (some .boolean), .methodLink RX7 306 yX7_aloneSent, .instanceMethod yX7_aloneSent, .selects RX7 yX7_aloneSent yX7_aloneSent, .code yX7_aloneSent cX7_aloneSent 13 (some .int), .fieldLink RX7 43 "HopCreditsModel" "aloneCell" "[I", .fieldLink RX7 46 "HopCreditsModel" "aloneTold" "[I"] ++ wsX70)
def wsX7_full : List Cond := .code yX7_full cX7_full 7 (some .int) :: ([.fieldLink RX7 49 "HopCreditsModel" "thrown" "I", .methodLink RX7 302 yX7_isAlone, .static yX7_isAlone, .initialized RX7, .code yX7_isAlone cX7_isAlone 4 (some .boolean), .methodLink RX7 60 yX7_in, .static yX7_in, .code yX7_in cX7_in 3 (some .boolean), .methodLink RX7 253 yX7_isSpan, .static yX7_isSpan, .code yX7_isSpan cX7_isSpan 2 (some .boolean), .methodLink RX7 306 yX7_aloneSent, .instanceMethod yX7_aloneSent, .selects RX7 yX7_aloneSent yX7_aloneSent, .code yX7_aloneSent cX7_aloneSent 13 (some .int), .fieldLink RX7 43 "HopCreditsModel" "aloneCell" "[I", .fieldLink RX7 46 "HopCreditsModel" "aloneTold" "[I"] ++ wsX70)
def wsX7_law : List Cond := .code yX7_law cX7_law 4 (some .int) :: ([.fieldLink RX7 49 "HopCreditsModel" "thrown" "I", .methodLink RX7 302 yX7_isAlone, .static yX7_isAlone, .initialized RX7, .code yX7_isAlone cX7_isAlone 4 (some .boolean), .methodLink RX7 60 yX7_in, .static yX7_in, .code yX7_in cX7_in 3 (some .boolean), .methodLink RX7 253 yX7_isSpan, .static yX7_isSpan, .code yX7_isSpan cX7_isSpan 2 (some .boolean)] ++ wsX70)
def wsX7_aim_r1 : List Cond := [Cond.fieldLink RX7 49 "HopCreditsModel" "thrown" "I", Cond.methodLink RX7 229 yX7_isLane, Cond.instanceMethod yX7_isLane, Cond.selects RX7 yX7_isLane yX7_isLane, Cond.initialized RX7, Cond.code yX7_isLane cX7_isLane 3 (some .boolean), Cond.methodLink RX7 130 yX7_isHop, Cond.instanceMethod yX7_isHop, Cond.selects RX7 yX7_isHop yX7_isHop, Cond.code yX7_isHop cX7_isHop 2 (some .boolean), Cond.fieldLink RX7 124 "HopCreditsModel" "hops" "I", Cond.methodLink RX7 60 yX7_in, Cond.static yX7_in, Cond.code yX7_in cX7_in 3 (some .boolean), Cond.methodLink RX7 133 yX7_isCircuit, Cond.instanceMethod yX7_isCircuit, Cond.selects RX7 yX7_isCircuit yX7_isCircuit, Cond.code yX7_isCircuit cX7_isCircuit 2 (some .boolean), Cond.fieldLink RX7 127 "HopCreditsModel" "circuits" "I", Cond.methodLink RX7 202 yX7_aimOf, Cond.instanceMethod yX7_aimOf, Cond.selects RX7 yX7_aimOf yX7_aimOf, Cond.code yX7_aimOf cX7_aimOf 5 (some .int), Cond.fieldLink RX7 22 "HopCreditsModel" "now" "[I"]
def wsX7_aim_r2 : List Cond := [Cond.fieldLink RX7 28 "HopCreditsModel" "rule" "[I", Cond.methodLink RX7 163 yX7_lane, Cond.static yX7_lane, Cond.code yX7_lane cX7_lane 2 (some .int), Cond.methodLink RX7 151 yX7_pool, Cond.instanceMethod yX7_pool, Cond.selects RX7 yX7_pool yX7_pool, Cond.code yX7_pool cX7_pool 2 (some .int), Cond.fieldLink RX7 31 "HopCreditsModel" "hop" "[I"]
def wsX7_aim : List Cond := .code yX7_aim cX7_aim 3 (some .int) :: ((wsX7_aim_r1 ++ wsX7_aim_r2) ++ wsX70)
def wsX7_room_r1 : List Cond := [Cond.fieldLink RX7 49 "HopCreditsModel" "thrown" "I", Cond.methodLink RX7 229 yX7_isLane, Cond.instanceMethod yX7_isLane, Cond.selects RX7 yX7_isLane yX7_isLane, Cond.initialized RX7, Cond.code yX7_isLane cX7_isLane 3 (some .boolean), Cond.methodLink RX7 130 yX7_isHop, Cond.instanceMethod yX7_isHop, Cond.selects RX7 yX7_isHop yX7_isHop, Cond.code yX7_isHop cX7_isHop 2 (some .boolean), Cond.fieldLink RX7 124 "HopCreditsModel" "hops" "I", Cond.methodLink RX7 60 yX7_in, Cond.static yX7_in, Cond.code yX7_in cX7_in 3 (some .boolean), Cond.methodLink RX7 133 yX7_isCircuit, Cond.instanceMethod yX7_isCircuit, Cond.selects RX7 yX7_isCircuit yX7_isCircuit, Cond.code yX7_isCircuit cX7_isCircuit 2 (some .boolean), Cond.fieldLink RX7 127 "HopCreditsModel" "circuits" "I", Cond.methodLink RX7 310 yX7_roomFor, Cond.instanceMethod yX7_roomFor, Cond.selects RX7 yX7_roomFor yX7_roomFor, Cond.code yX7_roomFor cX7_roomFor 3 (some .int), Cond.fieldLink RX7 22 "HopCreditsModel" "now" "[I"]
def wsX7_room_r2 : List Cond := [Cond.methodLink RX7 175 Lib.Math.min.name, Cond.static Lib.Math.min.name, Cond.initialized "java/lang/Math", Cond.code Lib.Math.min.name Lib.Math.min.code 2 (some .int), Cond.methodLink RX7 154 Lib.Math.max.name, Cond.static Lib.Math.max.name, Cond.code Lib.Math.max.name Lib.Math.max.code 2 (some .int), Cond.methodLink RX7 163 yX7_lane, Cond.static yX7_lane, Cond.code yX7_lane cX7_lane 2 (some .int), Cond.methodLink RX7 151 yX7_pool, Cond.instanceMethod yX7_pool, Cond.selects RX7 yX7_pool yX7_pool, Cond.code yX7_pool cX7_pool 2 (some .int), Cond.fieldLink RX7 31 "HopCreditsModel" "hop" "[I", Cond.methodLink RX7 172 yX7_leftFor, Cond.instanceMethod yX7_leftFor, Cond.selects RX7 yX7_leftFor yX7_leftFor, Cond.code yX7_leftFor cX7_leftFor 5 (some .int), Cond.methodLink RX7 169 yX7_outOf, Cond.instanceMethod yX7_outOf, Cond.selects RX7 yX7_outOf yX7_outOf, Cond.code yX7_outOf cX7_outOf 3 (some .int), Cond.methodLink RX7 166 yX7_less]
def wsX7_room_r3 : List Cond := [Cond.static yX7_less, Cond.code yX7_less cX7_less 2 (some .int)]
def wsX7_room : List Cond := .code yX7_room cX7_room 3 (some .int) :: ((wsX7_room_r1 ++ (wsX7_room_r2 ++ wsX7_room_r3)) ++ wsX70)
def wsX7_trip : List Cond := .code yX7_trip cX7_trip 3 (some .int) :: ([.fieldLink RX7 49 "HopCreditsModel" "thrown" "I", .fieldLink RX7 22 "HopCreditsModel" "now" "[I", .methodLink RX7 133 yX7_isCircuit, .instanceMethod yX7_isCircuit, .selects RX7 yX7_isCircuit yX7_isCircuit, .initialized RX7, .code yX7_isCircuit cX7_isCircuit 2 (some .boolean), .fieldLink RX7 127 "HopCreditsModel" "circuits" "I", .methodLink RX7 60 yX7_in, .static yX7_in, .code yX7_in cX7_in 3 (some .boolean), .methodLink RX7 147 yX7_circuitAt, .static yX7_circuitAt, .code yX7_circuitAt cX7_circuitAt 1 (some .int)] ++ wsX70)
def wsX7_oldest : List Cond := .code yX7_oldest cX7_oldest 2 (some .int) :: ([.fieldLink RX7 49 "HopCreditsModel" "thrown" "I", .fieldLink RX7 22 "HopCreditsModel" "now" "[I", .methodLink RX7 133 yX7_isCircuit, .instanceMethod yX7_isCircuit, .selects RX7 yX7_isCircuit yX7_isCircuit, .initialized RX7, .code yX7_isCircuit cX7_isCircuit 2 (some .boolean), .fieldLink RX7 127 "HopCreditsModel" "circuits" "I", .methodLink RX7 60 yX7_in, .static yX7_in, .code yX7_in cX7_in 3 (some .boolean), .methodLink RX7 244 yX7_anywhere, .instanceMethod yX7_anywhere, .selects RX7 yX7_anywhere yX7_anywhere, .code yX7_anywhere cX7_anywhere 2 (some .int), .methodLink RX7 147 yX7_circuitAt, .static yX7_circuitAt, .code yX7_circuitAt cX7_circuitAt 1 (some .int)] ++ wsX70)
def wsX7_count_r1 : List Cond := [Cond.fieldLink RX7 49 "HopCreditsModel" "thrown" "I", Cond.fieldLink RX7 57 "HopCreditsModel" "taped" "I", Cond.constant RX7 236 (-1000000), Cond.fieldLink RX7 22 "HopCreditsModel" "now" "[I", Cond.methodLink RX7 136 yX7_isNet, Cond.instanceMethod yX7_isNet, Cond.selects RX7 yX7_isNet yX7_isNet, Cond.initialized RX7, Cond.code yX7_isNet cX7_isNet 1 (some .boolean), Cond.fieldLink RX7 124 "HopCreditsModel" "hops" "I", Cond.methodLink RX7 292 yX7_cellsAnywhere, Cond.instanceMethod yX7_cellsAnywhere, Cond.selects RX7 yX7_cellsAnywhere yX7_cellsAnywhere, Cond.code yX7_cellsAnywhere cX7_cellsAnywhere 3 (some .int), Cond.fieldLink RX7 127 "HopCreditsModel" "circuits" "I", Cond.methodLink RX7 244 yX7_anywhere, Cond.instanceMethod yX7_anywhere, Cond.selects RX7 yX7_anywhere yX7_anywhere, Cond.code yX7_anywhere cX7_anywhere 2 (some .int), Cond.methodLink RX7 147 yX7_circuitAt, Cond.static yX7_circuitAt, Cond.code yX7_circuitAt cX7_circuitAt 1 (some .int), Cond.methodLink RX7 265 yX7_deliveredOf, Cond.instanceMethod yX7_deliveredOf]
def wsX7_count_r2 : List Cond := [Cond.selects RX7 yX7_deliveredOf yX7_deliveredOf, Cond.code yX7_deliveredOf cX7_deliveredOf 4 (some .int), Cond.methodLink RX7 280 yX7_unknown, Cond.instanceMethod yX7_unknown, Cond.selects RX7 yX7_unknown yX7_unknown, Cond.code yX7_unknown cX7_unknown 4 (some .int), Cond.methodLink RX7 163 yX7_lane, Cond.static yX7_lane, Cond.code yX7_lane cX7_lane 2 (some .int)]
def wsX7_count : List Cond := .code yX7_count cX7_count 2 (some .int) :: ((wsX7_count_r1 ++ wsX7_count_r2) ++ wsX70)
theorem dX0_init_0 : decode cX0_init 0 = .ok (.aload_n 0, 1) := by decide +kernel
theorem dX0_init_1 : decode cX0_init 1 = .ok (.invokespecial 1, 3) := by decide +kernel
theorem dX0_init_4 : decode cX0_init 4 = .ok (.return_, 1) := by decide +kernel
theorem dX0_lay_0 : decode cX0_lay 0 = .ok (.aload_n 0, 1) := by decide +kernel
theorem dX0_lay_1 : decode cX0_lay 1 = .ok (.iload_n 1, 1) := by decide +kernel
theorem dX0_lay_2 : decode cX0_lay 2 = .ok (.putfield 7, 3) := by decide +kernel
theorem dX0_lay_5 : decode cX0_lay 5 = .ok (.aload_n 0, 1) := by decide +kernel
theorem dX0_lay_6 : decode cX0_lay 6 = .ok (.iload_n 2, 1) := by decide +kernel
theorem dX0_lay_7 : decode cX0_lay 7 = .ok (.putfield 13, 3) := by decide +kernel
theorem dX0_lay_10 : decode cX0_lay 10 = .ok (.aload_n 0, 1) := by decide +kernel
theorem dX0_lay_11 : decode cX0_lay 11 = .ok (.iload_n 3, 1) := by decide +kernel
theorem dX0_lay_12 : decode cX0_lay 12 = .ok (.putfield 16, 3) := by decide +kernel
theorem dX0_lay_15 : decode cX0_lay 15 = .ok (.aload_n 0, 1) := by decide +kernel
theorem dX0_lay_16 : decode cX0_lay 16 = .ok (.iconst 0, 1) := by decide +kernel
theorem dX0_lay_17 : decode cX0_lay 17 = .ok (.putfield 19, 3) := by decide +kernel
theorem dX0_lay_20 : decode cX0_lay 20 = .ok (.aload_n 0, 1) := by decide +kernel
theorem dX0_lay_21 : decode cX0_lay 21 = .ok (.iconst 0, 1) := by decide +kernel
theorem dX0_lay_22 : decode cX0_lay 22 = .ok (.putfield 22, 3) := by decide +kernel
theorem dX0_lay_25 : decode cX0_lay 25 = .ok (.aload_n 0, 1) := by decide +kernel
theorem dX0_lay_26 : decode cX0_lay 26 = .ok (.iconst 0, 1) := by decide +kernel
theorem dX0_lay_27 : decode cX0_lay 27 = .ok (.putfield 25, 3) := by decide +kernel
theorem dX0_lay_30 : decode cX0_lay 30 = .ok (.aload_n 0, 1) := by decide +kernel
theorem dX0_lay_31 : decode cX0_lay 31 = .ok (.iconst 0, 1) := by decide +kernel
theorem dX0_lay_32 : decode cX0_lay 32 = .ok (.putfield 28, 3) := by decide +kernel
theorem dX0_lay_35 : decode cX0_lay 35 = .ok (.aload_n 0, 1) := by decide +kernel
theorem dX0_lay_36 : decode cX0_lay 36 = .ok (.iconst 0, 1) := by decide +kernel
theorem dX0_lay_37 : decode cX0_lay 37 = .ok (.putfield 32, 3) := by decide +kernel
theorem dX0_lay_40 : decode cX0_lay 40 = .ok (.return_, 1) := by decide +kernel
theorem dX0_comesIn_0 : decode cX0_comesIn 0 = .ok (.aload_n 0, 1) := by decide +kernel
theorem dX0_comesIn_1 : decode cX0_comesIn 1 = .ok (.getfield 7, 3) := by decide +kernel
theorem dX0_comesIn_4 : decode cX0_comesIn 4 = .ok (.ifCond .le 29, 3) := by decide +kernel
theorem dX0_comesIn_33 : decode cX0_comesIn 33 = .ok (.iconst 0, 1) := by decide +kernel
theorem dX0_comesIn_34 : decode cX0_comesIn 34 = .ok (.ireturn, 1) := by decide +kernel
theorem dX0_takesIn_0 : decode cX0_takesIn 0 = .ok (.aload_n 0, 1) := by decide +kernel
theorem dX0_takesIn_1 : decode cX0_takesIn 1 = .ok (.getfield 16, 3) := by decide +kernel
theorem dX0_takesIn_4 : decode cX0_takesIn 4 = .ok (.ifCond .le 16, 3) := by decide +kernel
theorem dX0_takesIn_7 : decode cX0_takesIn 7 = .ok (.iload_n 1, 1) := by decide +kernel
theorem dX0_takesIn_8 : decode cX0_takesIn 8 = .ok (.aload_n 0, 1) := by decide +kernel
theorem dX0_takesIn_9 : decode cX0_takesIn 9 = .ok (.getfield 16, 3) := by decide +kernel
theorem dX0_takesIn_12 : decode cX0_takesIn 12 = .ok (.irem, 1) := by decide +kernel
theorem dX0_takesIn_13 : decode cX0_takesIn 13 = .ok (.ifCond .ne 7, 3) := by decide +kernel
theorem dX0_takesIn_16 : decode cX0_takesIn 16 = .ok (.iconst 1, 1) := by decide +kernel
theorem dX0_takesIn_17 : decode cX0_takesIn 17 = .ok (.goto 4, 3) := by decide +kernel
theorem dX0_takesIn_20 : decode cX0_takesIn 20 = .ok (.iconst 0, 1) := by decide +kernel
theorem dX0_takesIn_21 : decode cX0_takesIn 21 = .ok (.ireturn, 1) := by decide +kernel
theorem dX1_init_0 : decode cX1_init 0 = .ok (.aload_n 0, 1) := by decide +kernel
theorem dX1_init_1 : decode cX1_init 1 = .ok (.invokespecial 3, 3) := by decide +kernel
theorem dX1_init_4 : decode cX1_init 4 = .ok (.return_, 1) := by decide +kernel
theorem dX1_lay_0 : decode cX1_lay 0 = .ok (.aload_n 0, 1) := by decide +kernel
theorem dX1_lay_1 : decode cX1_lay 1 = .ok (.iconst 0, 1) := by decide +kernel
theorem dX1_lay_2 : decode cX1_lay 2 = .ok (.putfield 9, 3) := by decide +kernel
theorem dX1_lay_5 : decode cX1_lay 5 = .ok (.aload_n 0, 1) := by decide +kernel
theorem dX1_lay_6 : decode cX1_lay 6 = .ok (.iconst 0, 1) := by decide +kernel
theorem dX1_lay_7 : decode cX1_lay 7 = .ok (.putfield 15, 3) := by decide +kernel
theorem dX1_lay_10 : decode cX1_lay 10 = .ok (.aload_n 0, 1) := by decide +kernel
theorem dX1_lay_11 : decode cX1_lay 11 = .ok (.iconst 0, 1) := by decide +kernel
theorem dX1_lay_12 : decode cX1_lay 12 = .ok (.putfield 18, 3) := by decide +kernel
theorem dX1_lay_15 : decode cX1_lay 15 = .ok (.aload_n 0, 1) := by decide +kernel
theorem dX1_lay_16 : decode cX1_lay 16 = .ok (.iload_n 1, 1) := by decide +kernel
theorem dX1_lay_17 : decode cX1_lay 17 = .ok (.putfield 21, 3) := by decide +kernel
theorem dX1_lay_20 : decode cX1_lay 20 = .ok (.aload_n 0, 1) := by decide +kernel
theorem dX1_lay_21 : decode cX1_lay 21 = .ok (.iconst 0, 1) := by decide +kernel
theorem dX1_lay_22 : decode cX1_lay 22 = .ok (.putfield 24, 3) := by decide +kernel
theorem dX1_lay_25 : decode cX1_lay 25 = .ok (.aload_n 0, 1) := by decide +kernel
theorem dX1_lay_26 : decode cX1_lay 26 = .ok (.iconst 0, 1) := by decide +kernel
theorem dX1_lay_27 : decode cX1_lay 27 = .ok (.putfield 27, 3) := by decide +kernel
theorem dX1_lay_30 : decode cX1_lay 30 = .ok (.aload_n 0, 1) := by decide +kernel
theorem dX1_lay_31 : decode cX1_lay 31 = .ok (.iconst 0, 1) := by decide +kernel
theorem dX1_lay_32 : decode cX1_lay 32 = .ok (.putfield 30, 3) := by decide +kernel
theorem dX1_lay_35 : decode cX1_lay 35 = .ok (.return_, 1) := by decide +kernel
theorem dX1_out_0 : decode cX1_out 0 = .ok (.aload_n 0, 1) := by decide +kernel
theorem dX1_out_1 : decode cX1_out 1 = .ok (.getfield 9, 3) := by decide +kernel
theorem dX1_out_4 : decode cX1_out 4 = .ok (.aload_n 0, 1) := by decide +kernel
theorem dX1_out_5 : decode cX1_out 5 = .ok (.getfield 18, 3) := by decide +kernel
theorem dX1_out_8 : decode cX1_out 8 = .ok (.isub, 1) := by decide +kernel
theorem dX1_out_9 : decode cX1_out 9 = .ok (.bipush 63, 2) := by decide +kernel
theorem dX1_out_11 : decode cX1_out 11 = .ok (.iand, 1) := by decide +kernel
theorem dX1_out_12 : decode cX1_out 12 = .ok (.ireturn, 1) := by decide +kernel
set_option maxRecDepth 20000 in
theorem ggX1_hear_X6_reaches : GoodIn wsX1_hear wsX6_reaches := goodIn_r _ [4] (by decide +kernel) (by decide +kernel)
theorem dX1_hear_0 : decode cX1_hear 0 = .ok (.iload_n 1, 1) := by decide +kernel
theorem dX1_hear_1 : decode cX1_hear 1 = .ok (.aload_n 0, 1) := by decide +kernel
theorem dX1_hear_2 : decode cX1_hear 2 = .ok (.getfield 18, 3) := by decide +kernel
theorem dX1_hear_5 : decode cX1_hear 5 = .ok (.invokestatic 43, 3) := by decide +kernel
theorem dX1_hear_8 : decode cX1_hear 8 = .ok (.ifCond .eq 8, 3) := by decide +kernel
theorem dX1_hear_11 : decode cX1_hear 11 = .ok (.aload_n 0, 1) := by decide +kernel
theorem dX1_hear_12 : decode cX1_hear 12 = .ok (.iload_n 1, 1) := by decide +kernel
theorem dX1_hear_13 : decode cX1_hear 13 = .ok (.putfield 18, 3) := by decide +kernel
theorem dX1_hear_16 : decode cX1_hear 16 = .ok (.return_, 1) := by decide +kernel
set_option maxRecDepth 20000 in
theorem ggX2_init_X1_init : GoodIn wsX2_init wsX1_init := goodIn_r _ [13, 14, 2, 3] (by decide +kernel) (by decide +kernel)
theorem dX2_init_0 : decode cX2_init 0 = .ok (.aload_n 0, 1) := by decide +kernel
theorem dX2_init_1 : decode cX2_init 1 = .ok (.invokespecial 3, 3) := by decide +kernel
theorem dX2_init_4 : decode cX2_init 4 = .ok (.aload_n 0, 1) := by decide +kernel
theorem dX2_init_5 : decode cX2_init 5 = .ok (.iconst 5, 1) := by decide +kernel
theorem dX2_init_6 : decode cX2_init 6 = .ok (.newarray .int, 2) := by decide +kernel
theorem dX2_init_8 : decode cX2_init 8 = .ok (.putfield 9, 3) := by decide +kernel
theorem dX2_init_11 : decode cX2_init 11 = .ok (.aload_n 0, 1) := by decide +kernel
theorem dX2_init_12 : decode cX2_init 12 = .ok (.bipush 15, 2) := by decide +kernel
theorem dX2_init_14 : decode cX2_init 14 = .ok (.newarray .int, 2) := by decide +kernel
theorem dX2_init_16 : decode cX2_init 16 = .ok (.putfield 15, 3) := by decide +kernel
theorem dX2_init_19 : decode cX2_init 19 = .ok (.aload_n 0, 1) := by decide +kernel
theorem dX2_init_20 : decode cX2_init 20 = .ok (.bipush 15, 2) := by decide +kernel
theorem dX2_init_22 : decode cX2_init 22 = .ok (.newarray .int, 2) := by decide +kernel
theorem dX2_init_24 : decode cX2_init 24 = .ok (.putfield 18, 3) := by decide +kernel
theorem dX2_init_27 : decode cX2_init 27 = .ok (.aload_n 0, 1) := by decide +kernel
theorem dX2_init_28 : decode cX2_init 28 = .ok (.iconst 3, 1) := by decide +kernel
theorem dX2_init_29 : decode cX2_init 29 = .ok (.anewarray 21, 3) := by decide +kernel
theorem dX2_init_32 : decode cX2_init 32 = .ok (.putfield 23, 3) := by decide +kernel
theorem dX2_init_35 : decode cX2_init 35 = .ok (.iconst 0, 1) := by decide +kernel
theorem dX2_init_36 : decode cX2_init 36 = .ok (.istore_n 1, 1) := by decide +kernel
theorem dX2_init_37 : decode cX2_init 37 = .ok (.iload_n 1, 1) := by decide +kernel
theorem dX2_init_38 : decode cX2_init 38 = .ok (.iconst 3, 1) := by decide +kernel
theorem dX2_init_39 : decode cX2_init 39 = .ok (.if_icmp .ge 22, 3) := by decide +kernel
theorem dX2_init_42 : decode cX2_init 42 = .ok (.aload_n 0, 1) := by decide +kernel
theorem dX2_init_43 : decode cX2_init 43 = .ok (.getfield 23, 3) := by decide +kernel
theorem dX2_init_46 : decode cX2_init 46 = .ok (.iload_n 1, 1) := by decide +kernel
theorem dX2_init_47 : decode cX2_init 47 = .ok (.new 21, 3) := by decide +kernel
theorem dX2_init_50 : decode cX2_init 50 = .ok (.dup, 1) := by decide +kernel
theorem dX2_init_51 : decode cX2_init 51 = .ok (.invokespecial 27, 3) := by decide +kernel
theorem dX2_init_54 : decode cX2_init 54 = .ok (.aastore, 1) := by decide +kernel
theorem dX2_init_55 : decode cX2_init 55 = .ok (.iinc 1 1, 3) := by decide +kernel
theorem dX2_init_58 : decode cX2_init 58 = .ok (.goto (-21), 3) := by decide +kernel
theorem dX2_init_61 : decode cX2_init 61 = .ok (.return_, 1) := by decide +kernel
set_option maxRecDepth 20000 in
theorem ggX2_lay_X2_clearSlot : GoodIn wsX2_lay wsX2_clearSlot := goodIn_r _ [12, 13, 14, 15, 28, 29, 30, 31, 32, 33, 34, 35, 36, 37] (by decide +kernel) (by decide +kernel)
set_option maxRecDepth 20000 in
theorem gX2_lay_X2_clearSlot : GoodIn wsX2_lay (wsV RX2 47 RX2 yX2_clearSlot wsX2_clearSlot) := goodIn_app (goodIn_of _ (by decide +kernel)) ggX2_lay_X2_clearSlot
set_option maxRecDepth 20000 in
theorem ggX2_lay_X1_lay : GoodIn wsX2_lay wsX1_lay := goodIn_r _ [20, 21, 22, 23, 24, 25, 26, 27, 38, 39, 40, 41, 42, 43, 44] (by decide +kernel) (by decide +kernel)
set_option maxRecDepth 20000 in
theorem gX2_lay_X1_lay : GoodIn wsX2_lay (wsV RX2 51 RX1 yX1_lay wsX1_lay) := goodIn_app (goodIn_of _ (by decide +kernel)) ggX2_lay_X1_lay
theorem dX2_lay_0 : decode cX2_lay 0 = .ok (.aload_n 0, 1) := by decide +kernel
theorem dX2_lay_1 : decode cX2_lay 1 = .ok (.iload_n 1, 1) := by decide +kernel
theorem dX2_lay_2 : decode cX2_lay 2 = .ok (.putfield 28, 3) := by decide +kernel
theorem dX2_lay_5 : decode cX2_lay 5 = .ok (.aload_n 0, 1) := by decide +kernel
theorem dX2_lay_6 : decode cX2_lay 6 = .ok (.iload_n 2, 1) := by decide +kernel
theorem dX2_lay_7 : decode cX2_lay 7 = .ok (.putfield 32, 3) := by decide +kernel
theorem dX2_lay_10 : decode cX2_lay 10 = .ok (.aload_n 0, 1) := by decide +kernel
theorem dX2_lay_11 : decode cX2_lay 11 = .ok (.iload_n 3, 1) := by decide +kernel
theorem dX2_lay_12 : decode cX2_lay 12 = .ok (.putfield 35, 3) := by decide +kernel
theorem dX2_lay_15 : decode cX2_lay 15 = .ok (.aload_n 0, 1) := by decide +kernel
theorem dX2_lay_16 : decode cX2_lay 16 = .ok (.iconst 0, 1) := by decide +kernel
theorem dX2_lay_17 : decode cX2_lay 17 = .ok (.putfield 38, 3) := by decide +kernel
theorem dX2_lay_20 : decode cX2_lay 20 = .ok (.aload_n 0, 1) := by decide +kernel
theorem dX2_lay_21 : decode cX2_lay 21 = .ok (.iconst (-1), 1) := by decide +kernel
theorem dX2_lay_22 : decode cX2_lay 22 = .ok (.putfield 41, 3) := by decide +kernel
theorem dX2_lay_25 : decode cX2_lay 25 = .ok (.aload_n 0, 1) := by decide +kernel
theorem dX2_lay_26 : decode cX2_lay 26 = .ok (.iconst (-1), 1) := by decide +kernel
theorem dX2_lay_27 : decode cX2_lay 27 = .ok (.putfield 44, 3) := by decide +kernel
theorem dX2_lay_30 : decode cX2_lay 30 = .ok (.iconst 0, 1) := by decide +kernel
theorem dX2_lay_31 : decode cX2_lay 31 = .ok (.istore 5, 2) := by decide +kernel
theorem dX2_lay_33 : decode cX2_lay 33 = .ok (.iload 5, 2) := by decide +kernel
theorem dX2_lay_35 : decode cX2_lay 35 = .ok (.iconst 5, 1) := by decide +kernel
theorem dX2_lay_36 : decode cX2_lay 36 = .ok (.if_icmp .ge 15, 3) := by decide +kernel
theorem dX2_lay_39 : decode cX2_lay 39 = .ok (.aload_n 0, 1) := by decide +kernel
theorem dX2_lay_40 : decode cX2_lay 40 = .ok (.iload 5, 2) := by decide +kernel
theorem dX2_lay_42 : decode cX2_lay 42 = .ok (.invokevirtual 47, 3) := by decide +kernel
theorem dX2_lay_45 : decode cX2_lay 45 = .ok (.iinc 5 1, 3) := by decide +kernel
theorem dX2_lay_48 : decode cX2_lay 48 = .ok (.goto (-15), 3) := by decide +kernel
theorem dX2_lay_51 : decode cX2_lay 51 = .ok (.iconst 0, 1) := by decide +kernel
theorem dX2_lay_52 : decode cX2_lay 52 = .ok (.istore 5, 2) := by decide +kernel
theorem dX2_lay_54 : decode cX2_lay 54 = .ok (.iload 5, 2) := by decide +kernel
theorem dX2_lay_56 : decode cX2_lay 56 = .ok (.iconst 3, 1) := by decide +kernel
theorem dX2_lay_57 : decode cX2_lay 57 = .ok (.if_icmp .ge 21, 3) := by decide +kernel
theorem dX2_lay_60 : decode cX2_lay 60 = .ok (.aload_n 0, 1) := by decide +kernel
theorem dX2_lay_61 : decode cX2_lay 61 = .ok (.getfield 23, 3) := by decide +kernel
theorem dX2_lay_64 : decode cX2_lay 64 = .ok (.iload 5, 2) := by decide +kernel
theorem dX2_lay_66 : decode cX2_lay 66 = .ok (.aaload, 1) := by decide +kernel
theorem dX2_lay_67 : decode cX2_lay 67 = .ok (.iload 4, 2) := by decide +kernel
theorem dX2_lay_69 : decode cX2_lay 69 = .ok (.invokevirtual 51, 3) := by decide +kernel
theorem dX2_lay_72 : decode cX2_lay 72 = .ok (.iinc 5 1, 3) := by decide +kernel
theorem dX2_lay_75 : decode cX2_lay 75 = .ok (.goto (-21), 3) := by decide +kernel
theorem dX2_lay_78 : decode cX2_lay 78 = .ok (.return_, 1) := by decide +kernel
theorem dX2_clearSlot_0 : decode cX2_clearSlot 0 = .ok (.aload_n 0, 1) := by decide +kernel
theorem dX2_clearSlot_1 : decode cX2_clearSlot 1 = .ok (.getfield 9, 3) := by decide +kernel
theorem dX2_clearSlot_4 : decode cX2_clearSlot 4 = .ok (.iload_n 1, 1) := by decide +kernel
theorem dX2_clearSlot_5 : decode cX2_clearSlot 5 = .ok (.iconst (-1), 1) := by decide +kernel
theorem dX2_clearSlot_6 : decode cX2_clearSlot 6 = .ok (.iastore, 1) := by decide +kernel
theorem dX2_clearSlot_7 : decode cX2_clearSlot 7 = .ok (.iconst 0, 1) := by decide +kernel
theorem dX2_clearSlot_8 : decode cX2_clearSlot 8 = .ok (.istore_n 2, 1) := by decide +kernel
theorem dX2_clearSlot_9 : decode cX2_clearSlot 9 = .ok (.iload_n 2, 1) := by decide +kernel
theorem dX2_clearSlot_10 : decode cX2_clearSlot 10 = .ok (.iconst 3, 1) := by decide +kernel
theorem dX2_clearSlot_11 : decode cX2_clearSlot 11 = .ok (.if_icmp .ge 31, 3) := by decide +kernel
theorem dX2_clearSlot_14 : decode cX2_clearSlot 14 = .ok (.aload_n 0, 1) := by decide +kernel
theorem dX2_clearSlot_15 : decode cX2_clearSlot 15 = .ok (.getfield 15, 3) := by decide +kernel
theorem dX2_clearSlot_18 : decode cX2_clearSlot 18 = .ok (.iload_n 1, 1) := by decide +kernel
theorem dX2_clearSlot_19 : decode cX2_clearSlot 19 = .ok (.iconst 3, 1) := by decide +kernel
theorem dX2_clearSlot_20 : decode cX2_clearSlot 20 = .ok (.imul, 1) := by decide +kernel
theorem dX2_clearSlot_21 : decode cX2_clearSlot 21 = .ok (.iload_n 2, 1) := by decide +kernel
theorem dX2_clearSlot_22 : decode cX2_clearSlot 22 = .ok (.iadd, 1) := by decide +kernel
theorem dX2_clearSlot_23 : decode cX2_clearSlot 23 = .ok (.iconst (-1), 1) := by decide +kernel
theorem dX2_clearSlot_24 : decode cX2_clearSlot 24 = .ok (.iastore, 1) := by decide +kernel
theorem dX2_clearSlot_25 : decode cX2_clearSlot 25 = .ok (.aload_n 0, 1) := by decide +kernel
theorem dX2_clearSlot_26 : decode cX2_clearSlot 26 = .ok (.getfield 18, 3) := by decide +kernel
theorem dX2_clearSlot_29 : decode cX2_clearSlot 29 = .ok (.iload_n 1, 1) := by decide +kernel
theorem dX2_clearSlot_30 : decode cX2_clearSlot 30 = .ok (.iconst 3, 1) := by decide +kernel
theorem dX2_clearSlot_31 : decode cX2_clearSlot 31 = .ok (.imul, 1) := by decide +kernel
theorem dX2_clearSlot_32 : decode cX2_clearSlot 32 = .ok (.iload_n 2, 1) := by decide +kernel
theorem dX2_clearSlot_33 : decode cX2_clearSlot 33 = .ok (.iadd, 1) := by decide +kernel
theorem dX2_clearSlot_34 : decode cX2_clearSlot 34 = .ok (.iconst 0, 1) := by decide +kernel
theorem dX2_clearSlot_35 : decode cX2_clearSlot 35 = .ok (.iastore, 1) := by decide +kernel
theorem dX2_clearSlot_36 : decode cX2_clearSlot 36 = .ok (.iinc 2 1, 3) := by decide +kernel
theorem dX2_clearSlot_39 : decode cX2_clearSlot 39 = .ok (.goto (-30), 3) := by decide +kernel
theorem dX2_clearSlot_42 : decode cX2_clearSlot 42 = .ok (.return_, 1) := by decide +kernel
set_option maxRecDepth 20000 in
theorem ggX3_init_X2_init : GoodIn wsX3_init wsX2_init := goodIn_r _ [16, 17, 2, 3, 8, 18, 19, 20, 21, 22, 23, 24, 25, 26, 27, 42, 43, 44, 45, 46, 47, 48, 49, 50, 51, 60, 61, 62, 63, 64, 65, 66] (by decide +kernel) (by decide +kernel)
set_option maxRecDepth 20000 in
theorem ggX3_init_X0_init : GoodIn wsX3_init wsX0_init := goodIn_r _ [29, 30, 2, 3] (by decide +kernel) (by decide +kernel)
theorem dX3_init_0 : decode cX3_init 0 = .ok (.aload_n 0, 1) := by decide +kernel
theorem dX3_init_1 : decode cX3_init 1 = .ok (.invokespecial 3, 3) := by decide +kernel
theorem dX3_init_4 : decode cX3_init 4 = .ok (.aload_n 0, 1) := by decide +kernel
theorem dX3_init_5 : decode cX3_init 5 = .ok (.iconst 3, 1) := by decide +kernel
theorem dX3_init_6 : decode cX3_init 6 = .ok (.anewarray 9, 3) := by decide +kernel
theorem dX3_init_9 : decode cX3_init 9 = .ok (.putfield 11, 3) := by decide +kernel
theorem dX3_init_12 : decode cX3_init 12 = .ok (.aload_n 0, 1) := by decide +kernel
theorem dX3_init_13 : decode cX3_init 13 = .ok (.iconst 3, 1) := by decide +kernel
theorem dX3_init_14 : decode cX3_init 14 = .ok (.anewarray 17, 3) := by decide +kernel
theorem dX3_init_17 : decode cX3_init 17 = .ok (.putfield 19, 3) := by decide +kernel
theorem dX3_init_20 : decode cX3_init 20 = .ok (.aload_n 0, 1) := by decide +kernel
theorem dX3_init_21 : decode cX3_init 21 = .ok (.bipush 12, 2) := by decide +kernel
theorem dX3_init_23 : decode cX3_init 23 = .ok (.newarray .int, 2) := by decide +kernel
theorem dX3_init_25 : decode cX3_init 25 = .ok (.putfield 23, 3) := by decide +kernel
theorem dX3_init_28 : decode cX3_init 28 = .ok (.iconst 0, 1) := by decide +kernel
theorem dX3_init_29 : decode cX3_init 29 = .ok (.istore_n 1, 1) := by decide +kernel
theorem dX3_init_30 : decode cX3_init 30 = .ok (.iload_n 1, 1) := by decide +kernel
theorem dX3_init_31 : decode cX3_init 31 = .ok (.iconst 3, 1) := by decide +kernel
theorem dX3_init_32 : decode cX3_init 32 = .ok (.if_icmp .ge 22, 3) := by decide +kernel
theorem dX3_init_35 : decode cX3_init 35 = .ok (.aload_n 0, 1) := by decide +kernel
theorem dX3_init_36 : decode cX3_init 36 = .ok (.getfield 11, 3) := by decide +kernel
theorem dX3_init_39 : decode cX3_init 39 = .ok (.iload_n 1, 1) := by decide +kernel
theorem dX3_init_40 : decode cX3_init 40 = .ok (.new 9, 3) := by decide +kernel
theorem dX3_init_43 : decode cX3_init 43 = .ok (.dup, 1) := by decide +kernel
theorem dX3_init_44 : decode cX3_init 44 = .ok (.invokespecial 27, 3) := by decide +kernel
theorem dX3_init_47 : decode cX3_init 47 = .ok (.aastore, 1) := by decide +kernel
theorem dX3_init_48 : decode cX3_init 48 = .ok (.iinc 1 1, 3) := by decide +kernel
theorem dX3_init_51 : decode cX3_init 51 = .ok (.goto (-21), 3) := by decide +kernel
theorem dX3_init_54 : decode cX3_init 54 = .ok (.iconst 0, 1) := by decide +kernel
theorem dX3_init_55 : decode cX3_init 55 = .ok (.istore_n 1, 1) := by decide +kernel
theorem dX3_init_56 : decode cX3_init 56 = .ok (.iload_n 1, 1) := by decide +kernel
theorem dX3_init_57 : decode cX3_init 57 = .ok (.iconst 3, 1) := by decide +kernel
theorem dX3_init_58 : decode cX3_init 58 = .ok (.if_icmp .ge 22, 3) := by decide +kernel
theorem dX3_init_61 : decode cX3_init 61 = .ok (.aload_n 0, 1) := by decide +kernel
theorem dX3_init_62 : decode cX3_init 62 = .ok (.getfield 19, 3) := by decide +kernel
theorem dX3_init_65 : decode cX3_init 65 = .ok (.iload_n 1, 1) := by decide +kernel
theorem dX3_init_66 : decode cX3_init 66 = .ok (.new 17, 3) := by decide +kernel
theorem dX3_init_69 : decode cX3_init 69 = .ok (.dup, 1) := by decide +kernel
theorem dX3_init_70 : decode cX3_init 70 = .ok (.invokespecial 28, 3) := by decide +kernel
theorem dX3_init_73 : decode cX3_init 73 = .ok (.aastore, 1) := by decide +kernel
theorem dX3_init_74 : decode cX3_init 74 = .ok (.iinc 1 1, 3) := by decide +kernel
theorem dX3_init_77 : decode cX3_init 77 = .ok (.goto (-21), 3) := by decide +kernel
theorem dX3_init_80 : decode cX3_init 80 = .ok (.return_, 1) := by decide +kernel
set_option maxRecDepth 20000 in
theorem ggX3_layAlone_X3_layRules : GoodIn wsX3_layAlone wsX3_layRules := goodIn_r _ [8, 9, 10, 11, 12, 13, 14, 15, 16, 3, 61, 62, 63, 64, 65, 66, 67, 68, 69, 70, 71] (by decide +kernel) (by decide +kernel)
set_option maxRecDepth 20000 in
theorem gX3_layAlone_X3_layRules : GoodIn wsX3_layAlone (wsV RX3 42 RX3 yX3_layRules wsX3_layRules) := goodIn_app (goodIn_of _ (by decide +kernel)) ggX3_layAlone_X3_layRules
set_option maxRecDepth 20000 in
theorem ggX3_layAlone_X2_lay : GoodIn wsX3_layAlone wsX2_lay := goodIn_r _ [21, 22, 23, 24, 25, 26, 27, 28, 29, 30, 31, 20, 32, 33, 34, 35, 36, 37, 38, 39, 40, 41, 42, 43, 44, 45, 46, 47, 72, 73, 74, 75, 76, 77, 78, 79, 80, 81, 82, 83, 84, 85, 86, 87, 88] (by decide +kernel) (by decide +kernel)
set_option maxRecDepth 20000 in
theorem gX3_layAlone_X2_lay : GoodIn wsX3_layAlone (wsV RX3 69 RX2 yX2_lay wsX2_lay) := goodIn_app (goodIn_of _ (by decide +kernel)) ggX3_layAlone_X2_lay
set_option maxRecDepth 20000 in
theorem ggX3_layAlone_X0_lay : GoodIn wsX3_layAlone wsX0_lay := goodIn_r _ [52, 53, 54, 55, 56, 57, 58, 59, 60, 89, 90, 91, 92, 93, 94, 95, 96] (by decide +kernel) (by decide +kernel)
set_option maxRecDepth 20000 in
theorem gX3_layAlone_X0_lay : GoodIn wsX3_layAlone (wsV RX3 76 RX0 yX0_lay wsX0_lay) := goodIn_app (goodIn_of _ (by decide +kernel)) ggX3_layAlone_X0_lay
theorem dX3_layAlone_0 : decode cX3_layAlone 0 = .ok (.aload_n 0, 1) := by decide +kernel
theorem dX3_layAlone_1 : decode cX3_layAlone 1 = .ok (.iconst 1, 1) := by decide +kernel
theorem dX3_layAlone_2 : decode cX3_layAlone 2 = .ok (.iconst 1, 1) := by decide +kernel
theorem dX3_layAlone_3 : decode cX3_layAlone 3 = .ok (.iconst 1, 1) := by decide +kernel
theorem dX3_layAlone_4 : decode cX3_layAlone 4 = .ok (.invokevirtual 42, 3) := by decide +kernel
theorem dX3_layAlone_7 : decode cX3_layAlone 7 = .ok (.aload_n 0, 1) := by decide +kernel
theorem dX3_layAlone_8 : decode cX3_layAlone 8 = .ok (.getfield 11, 3) := by decide +kernel
theorem dX3_layAlone_11 : decode cX3_layAlone 11 = .ok (.iconst 0, 1) := by decide +kernel
theorem dX3_layAlone_12 : decode cX3_layAlone 12 = .ok (.aaload, 1) := by decide +kernel
theorem dX3_layAlone_13 : decode cX3_layAlone 13 = .ok (.iload_n 1, 1) := by decide +kernel
theorem dX3_layAlone_14 : decode cX3_layAlone 14 = .ok (.bipush 30, 2) := by decide +kernel
theorem dX3_layAlone_16 : decode cX3_layAlone 16 = .ok (.iload_n 2, 1) := by decide +kernel
theorem dX3_layAlone_17 : decode cX3_layAlone 17 = .ok (.iload_n 3, 1) := by decide +kernel
theorem dX3_layAlone_18 : decode cX3_layAlone 18 = .ok (.invokevirtual 69, 3) := by decide +kernel
theorem dX3_layAlone_21 : decode cX3_layAlone 21 = .ok (.aload_n 0, 1) := by decide +kernel
theorem dX3_layAlone_22 : decode cX3_layAlone 22 = .ok (.getfield 19, 3) := by decide +kernel
theorem dX3_layAlone_25 : decode cX3_layAlone 25 = .ok (.iconst 0, 1) := by decide +kernel
theorem dX3_layAlone_26 : decode cX3_layAlone 26 = .ok (.aaload, 1) := by decide +kernel
theorem dX3_layAlone_27 : decode cX3_layAlone 27 = .ok (.iconst 0, 1) := by decide +kernel
theorem dX3_layAlone_28 : decode cX3_layAlone 28 = .ok (.iconst 0, 1) := by decide +kernel
theorem dX3_layAlone_29 : decode cX3_layAlone 29 = .ok (.iload 4, 2) := by decide +kernel
theorem dX3_layAlone_31 : decode cX3_layAlone 31 = .ok (.invokevirtual 76, 3) := by decide +kernel
theorem dX3_layAlone_34 : decode cX3_layAlone 34 = .ok (.aload_n 0, 1) := by decide +kernel
theorem dX3_layAlone_35 : decode cX3_layAlone 35 = .ok (.getfield 23, 3) := by decide +kernel
theorem dX3_layAlone_38 : decode cX3_layAlone 38 = .ok (.iconst 0, 1) := by decide +kernel
theorem dX3_layAlone_39 : decode cX3_layAlone 39 = .ok (.sipush 201, 3) := by decide +kernel
theorem dX3_layAlone_42 : decode cX3_layAlone 42 = .ok (.iastore, 1) := by decide +kernel
theorem dX3_layAlone_43 : decode cX3_layAlone 43 = .ok (.return_, 1) := by decide +kernel
theorem dX3_layRules_0 : decode cX3_layRules 0 = .ok (.aload_n 0, 1) := by decide +kernel
theorem dX3_layRules_1 : decode cX3_layRules 1 = .ok (.iload_n 1, 1) := by decide +kernel
theorem dX3_layRules_2 : decode cX3_layRules 2 = .ok (.putfield 53, 3) := by decide +kernel
theorem dX3_layRules_5 : decode cX3_layRules 5 = .ok (.aload_n 0, 1) := by decide +kernel
theorem dX3_layRules_6 : decode cX3_layRules 6 = .ok (.iload_n 2, 1) := by decide +kernel
theorem dX3_layRules_7 : decode cX3_layRules 7 = .ok (.putfield 62, 3) := by decide +kernel
theorem dX3_layRules_10 : decode cX3_layRules 10 = .ok (.aload_n 0, 1) := by decide +kernel
theorem dX3_layRules_11 : decode cX3_layRules 11 = .ok (.iload_n 3, 1) := by decide +kernel
theorem dX3_layRules_12 : decode cX3_layRules 12 = .ok (.putfield 59, 3) := by decide +kernel
theorem dX3_layRules_15 : decode cX3_layRules 15 = .ok (.aload_n 0, 1) := by decide +kernel
theorem dX3_layRules_16 : decode cX3_layRules 16 = .ok (.iconst 0, 1) := by decide +kernel
theorem dX3_layRules_17 : decode cX3_layRules 17 = .ok (.putfield 46, 3) := by decide +kernel
theorem dX3_layRules_20 : decode cX3_layRules 20 = .ok (.aload_n 0, 1) := by decide +kernel
theorem dX3_layRules_21 : decode cX3_layRules 21 = .ok (.iconst 0, 1) := by decide +kernel
theorem dX3_layRules_22 : decode cX3_layRules 22 = .ok (.putfield 50, 3) := by decide +kernel
theorem dX3_layRules_25 : decode cX3_layRules 25 = .ok (.aload_n 0, 1) := by decide +kernel
theorem dX3_layRules_26 : decode cX3_layRules 26 = .ok (.iconst 0, 1) := by decide +kernel
theorem dX3_layRules_27 : decode cX3_layRules 27 = .ok (.putfield 78, 3) := by decide +kernel
theorem dX3_layRules_30 : decode cX3_layRules 30 = .ok (.aload_n 0, 1) := by decide +kernel
theorem dX3_layRules_31 : decode cX3_layRules 31 = .ok (.iconst 0, 1) := by decide +kernel
theorem dX3_layRules_32 : decode cX3_layRules 32 = .ok (.putfield 81, 3) := by decide +kernel
theorem dX3_layRules_35 : decode cX3_layRules 35 = .ok (.aload_n 0, 1) := by decide +kernel
theorem dX3_layRules_36 : decode cX3_layRules 36 = .ok (.iconst 0, 1) := by decide +kernel
theorem dX3_layRules_37 : decode cX3_layRules 37 = .ok (.putfield 84, 3) := by decide +kernel
theorem dX3_layRules_40 : decode cX3_layRules 40 = .ok (.iconst 0, 1) := by decide +kernel
theorem dX3_layRules_41 : decode cX3_layRules 41 = .ok (.istore 4, 2) := by decide +kernel
theorem dX3_layRules_43 : decode cX3_layRules 43 = .ok (.iload 4, 2) := by decide +kernel
theorem dX3_layRules_45 : decode cX3_layRules 45 = .ok (.aload_n 0, 1) := by decide +kernel
theorem dX3_layRules_46 : decode cX3_layRules 46 = .ok (.getfield 23, 3) := by decide +kernel
theorem dX3_layRules_49 : decode cX3_layRules 49 = .ok (.arraylength, 1) := by decide +kernel
theorem dX3_layRules_50 : decode cX3_layRules 50 = .ok (.if_icmp .ge 17, 3) := by decide +kernel
theorem dX3_layRules_53 : decode cX3_layRules 53 = .ok (.aload_n 0, 1) := by decide +kernel
theorem dX3_layRules_54 : decode cX3_layRules 54 = .ok (.getfield 23, 3) := by decide +kernel
theorem dX3_layRules_57 : decode cX3_layRules 57 = .ok (.iload 4, 2) := by decide +kernel
theorem dX3_layRules_59 : decode cX3_layRules 59 = .ok (.iconst 0, 1) := by decide +kernel
theorem dX3_layRules_60 : decode cX3_layRules 60 = .ok (.iastore, 1) := by decide +kernel
theorem dX3_layRules_61 : decode cX3_layRules 61 = .ok (.iinc 4 1, 3) := by decide +kernel
theorem dX3_layRules_64 : decode cX3_layRules 64 = .ok (.goto (-21), 3) := by decide +kernel
theorem dX3_layRules_67 : decode cX3_layRules 67 = .ok (.return_, 1) := by decide +kernel
set_option maxRecDepth 20000 in
theorem ggX3_steps_X3_step : GoodIn wsX3_steps wsX3_step := goodIn_r _ [5, 6, 7, 8, 9, 10, 11, 12, 13, 4, 14, 15, 16, 17, 18, 19, 20, 21, 22, 23, 24, 25, 26, 27, 28, 29, 30, 31, 32, 33, 34, 35, 36, 37, 38, 39, 40, 41, 42, 43, 44, 45, 46, 47, 48, 49, 50, 51, 52, 53, 54, 55, 56, 57, 58, 59, 60, 61, 62, 63, 64, 65, 66, 67, 68, 69, 70, 71, 72, 73, 74, 75, 76, 77, 78, 79, 80, 81, 82, 83, 84, 85, 86, 87, 88, 89, 90, 91, 92, 93, 94, 95, 96, 97, 98, 99, 100, 101, 102, 103, 104, 105, 106, 107, 108, 109, 110, 111, 112, 113, 114, 115, 116, 117, 118, 119, 120, 121, 122, 123, 124, 125, 126, 127, 128, 129, 130, 131, 132, 133, 134, 135, 136, 137, 138, 139, 140, 141, 142, 143, 144, 145, 146, 147, 148, 149, 150, 151, 152, 153, 154, 155, 156, 157, 158, 159, 160, 161, 162, 163, 164, 165, 166, 167, 168, 169, 170, 171] (by decide +kernel) (by decide +kernel)
set_option maxRecDepth 20000 in
theorem gX3_steps_X3_step : GoodIn wsX3_steps (wsV RX3 100 RX3 yX3_step wsX3_step) := goodIn_app (goodIn_of _ (by decide +kernel)) ggX3_steps_X3_step
theorem dX3_steps_0 : decode cX3_steps 0 = .ok (.iconst 0, 1) := by decide +kernel
theorem dX3_steps_1 : decode cX3_steps 1 = .ok (.istore_n 2, 1) := by decide +kernel
theorem dX3_steps_2 : decode cX3_steps 2 = .ok (.iload_n 2, 1) := by decide +kernel
theorem dX3_steps_3 : decode cX3_steps 3 = .ok (.iload_n 1, 1) := by decide +kernel
theorem dX3_steps_4 : decode cX3_steps 4 = .ok (.if_icmp .ge 13, 3) := by decide +kernel
theorem dX3_steps_7 : decode cX3_steps 7 = .ok (.aload_n 0, 1) := by decide +kernel
theorem dX3_steps_8 : decode cX3_steps 8 = .ok (.invokevirtual 100, 3) := by decide +kernel
theorem dX3_steps_11 : decode cX3_steps 11 = .ok (.iinc 2 1, 3) := by decide +kernel
theorem dX3_steps_14 : decode cX3_steps 14 = .ok (.goto (-12), 3) := by decide +kernel
theorem dX3_steps_17 : decode cX3_steps 17 = .ok (.return_, 1) := by decide +kernel
set_option maxRecDepth 20000 in
theorem ggX3_step_X3_arriveOver : GoodIn wsX3_step wsX3_arriveOver := goodIn_r _ [10, 5, 4, 11, 12, 2, 13, 14, 15, 16, 17, 18, 19, 20, 21, 22, 23, 24, 25, 26, 27, 9, 28, 29, 30, 31, 32, 33, 34, 35, 36, 37, 38, 39, 40, 132, 133, 134, 135, 136, 137, 138, 139, 140, 141, 142, 143, 144, 145, 146, 147, 148, 149, 150, 151, 152, 153, 154, 155, 156, 157, 158, 159] (by decide +kernel) (by decide +kernel)
set_option maxRecDepth 20000 in
theorem gX3_step_X3_arriveOver : GoodIn wsX3_step (wsV RX3 103 RX3 yX3_arriveOver wsX3_arriveOver) := goodIn_app (goodIn_of _ (by decide +kernel)) ggX3_step_X3_arriveOver
set_option maxRecDepth 20000 in
theorem ggX3_step_X3_come : GoodIn wsX3_step wsX3_come := goodIn_r _ [44, 45, 46, 4, 47, 12, 48, 49, 50, 51, 52, 53, 54, 55, 132, 133, 134, 135, 136, 137, 138, 139, 140, 141, 142, 160, 161, 162, 163, 164, 165, 166, 167] (by decide +kernel) (by decide +kernel)
set_option maxRecDepth 20000 in
theorem gX3_step_X3_come : GoodIn wsX3_step (wsV RX3 107 RX3 yX3_come wsX3_come) := goodIn_app (goodIn_of _ (by decide +kernel)) ggX3_step_X3_come
set_option maxRecDepth 20000 in
theorem ggX3_step_X3_take : GoodIn wsX3_step wsX3_take := goodIn_r _ [59, 45, 1, 4, 12, 60, 61, 62, 63, 64, 52, 65, 66, 67, 68, 69, 9, 70, 5, 14, 32, 71, 72, 25, 26, 27, 28, 29, 30, 13, 31, 132, 133, 134, 135, 136, 137, 138, 139, 140, 141, 142, 160, 161, 162, 163, 164, 165, 166, 167, 143, 144, 145, 146, 147, 148, 149, 150, 151, 152, 153, 154, 155, 156, 157, 158, 159] (by decide +kernel) (by decide +kernel)
set_option maxRecDepth 20000 in
theorem gX3_step_X3_take : GoodIn wsX3_step (wsV RX3 110 RX3 yX3_take wsX3_take) := goodIn_app (goodIn_of _ (by decide +kernel)) ggX3_step_X3_take
set_option maxRecDepth 20000 in
theorem ggX3_step_X3_sendOver : GoodIn wsX3_step wsX3_sendOver := goodIn_r _ [76, 5, 77, 78, 11, 4, 31, 12, 14, 79, 80, 81, 82, 83, 9, 84, 2, 85, 86, 87, 88, 19, 89, 90, 21, 67, 68, 69, 70, 32, 71, 72, 25, 26, 27, 28, 29, 30, 13, 132, 133, 134, 135, 136, 137, 138, 139, 140, 141, 142, 143, 144, 145, 146, 147, 148, 149, 150, 151, 152, 153, 154, 155, 156, 157, 158, 159] (by decide +kernel) (by decide +kernel)
set_option maxRecDepth 20000 in
theorem gX3_step_X3_sendOver : GoodIn wsX3_step (wsV RX3 113 RX3 yX3_sendOver wsX3_sendOver) := goodIn_app (goodIn_of _ (by decide +kernel)) ggX3_step_X3_sendOver
set_option maxRecDepth 20000 in
theorem ggX3_step_X3_waitAt : GoodIn wsX3_step wsX3_waitAt := goodIn_r _ [94, 2, 5, 14, 95, 96, 97, 98, 99, 9, 100, 12, 85, 86, 87, 88, 19, 89, 90, 21, 101, 102, 103, 104, 15, 4, 31, 105, 132, 133, 134, 135, 136, 137, 138, 139, 140, 141, 142, 143, 144, 145, 146, 147, 148, 149, 150, 151, 152, 153, 154, 155, 156, 157, 158, 159] (by decide +kernel) (by decide +kernel)
set_option maxRecDepth 20000 in
theorem gX3_step_X3_waitAt : GoodIn wsX3_step (wsV RX3 116 RX3 yX3_waitAt wsX3_waitAt) := goodIn_app (goodIn_of _ (by decide +kernel)) ggX3_step_X3_waitAt
theorem dX3_step_0 : decode cX3_step 0 = .ok (.iconst 0, 1) := by decide +kernel
theorem dX3_step_1 : decode cX3_step 1 = .ok (.istore_n 1, 1) := by decide +kernel
theorem dX3_step_2 : decode cX3_step 2 = .ok (.iload_n 1, 1) := by decide +kernel
theorem dX3_step_3 : decode cX3_step 3 = .ok (.aload_n 0, 1) := by decide +kernel
theorem dX3_step_4 : decode cX3_step 4 = .ok (.getfield 53, 3) := by decide +kernel
theorem dX3_step_7 : decode cX3_step 7 = .ok (.if_icmp .ge 14, 3) := by decide +kernel
theorem dX3_step_10 : decode cX3_step 10 = .ok (.aload_n 0, 1) := by decide +kernel
theorem dX3_step_11 : decode cX3_step 11 = .ok (.iload_n 1, 1) := by decide +kernel
theorem dX3_step_12 : decode cX3_step 12 = .ok (.invokevirtual 103, 3) := by decide +kernel
theorem dX3_step_15 : decode cX3_step 15 = .ok (.iinc 1 1, 3) := by decide +kernel
theorem dX3_step_18 : decode cX3_step 18 = .ok (.goto (-16), 3) := by decide +kernel
theorem dX3_step_21 : decode cX3_step 21 = .ok (.iconst 0, 1) := by decide +kernel
theorem dX3_step_22 : decode cX3_step 22 = .ok (.istore_n 1, 1) := by decide +kernel
theorem dX3_step_23 : decode cX3_step 23 = .ok (.iload_n 1, 1) := by decide +kernel
theorem dX3_step_24 : decode cX3_step 24 = .ok (.aload_n 0, 1) := by decide +kernel
theorem dX3_step_25 : decode cX3_step 25 = .ok (.getfield 62, 3) := by decide +kernel
theorem dX3_step_28 : decode cX3_step 28 = .ok (.if_icmp .ge 14, 3) := by decide +kernel
theorem dX3_step_31 : decode cX3_step 31 = .ok (.aload_n 0, 1) := by decide +kernel
theorem dX3_step_32 : decode cX3_step 32 = .ok (.iload_n 1, 1) := by decide +kernel
theorem dX3_step_33 : decode cX3_step 33 = .ok (.invokevirtual 107, 3) := by decide +kernel
theorem dX3_step_36 : decode cX3_step 36 = .ok (.iinc 1 1, 3) := by decide +kernel
theorem dX3_step_39 : decode cX3_step 39 = .ok (.goto (-16), 3) := by decide +kernel
theorem dX3_step_42 : decode cX3_step 42 = .ok (.iconst 0, 1) := by decide +kernel
theorem dX3_step_43 : decode cX3_step 43 = .ok (.istore_n 1, 1) := by decide +kernel
theorem dX3_step_44 : decode cX3_step 44 = .ok (.iload_n 1, 1) := by decide +kernel
theorem dX3_step_45 : decode cX3_step 45 = .ok (.aload_n 0, 1) := by decide +kernel
theorem dX3_step_46 : decode cX3_step 46 = .ok (.getfield 62, 3) := by decide +kernel
theorem dX3_step_49 : decode cX3_step 49 = .ok (.if_icmp .ge 14, 3) := by decide +kernel
theorem dX3_step_52 : decode cX3_step 52 = .ok (.aload_n 0, 1) := by decide +kernel
theorem dX3_step_53 : decode cX3_step 53 = .ok (.iload_n 1, 1) := by decide +kernel
theorem dX3_step_54 : decode cX3_step 54 = .ok (.invokevirtual 110, 3) := by decide +kernel
theorem dX3_step_57 : decode cX3_step 57 = .ok (.iinc 1 1, 3) := by decide +kernel
theorem dX3_step_60 : decode cX3_step 60 = .ok (.goto (-16), 3) := by decide +kernel
theorem dX3_step_63 : decode cX3_step 63 = .ok (.aload_n 0, 1) := by decide +kernel
theorem dX3_step_64 : decode cX3_step 64 = .ok (.getfield 53, 3) := by decide +kernel
theorem dX3_step_67 : decode cX3_step 67 = .ok (.iconst 1, 1) := by decide +kernel
theorem dX3_step_68 : decode cX3_step 68 = .ok (.isub, 1) := by decide +kernel
theorem dX3_step_69 : decode cX3_step 69 = .ok (.istore_n 1, 1) := by decide +kernel
theorem dX3_step_70 : decode cX3_step 70 = .ok (.iload_n 1, 1) := by decide +kernel
theorem dX3_step_71 : decode cX3_step 71 = .ok (.ifCond .lt 19, 3) := by decide +kernel
theorem dX3_step_74 : decode cX3_step 74 = .ok (.aload_n 0, 1) := by decide +kernel
theorem dX3_step_75 : decode cX3_step 75 = .ok (.iload_n 1, 1) := by decide +kernel
theorem dX3_step_76 : decode cX3_step 76 = .ok (.invokevirtual 113, 3) := by decide +kernel
theorem dX3_step_79 : decode cX3_step 79 = .ok (.aload_n 0, 1) := by decide +kernel
theorem dX3_step_80 : decode cX3_step 80 = .ok (.iload_n 1, 1) := by decide +kernel
theorem dX3_step_81 : decode cX3_step 81 = .ok (.invokevirtual 116, 3) := by decide +kernel
theorem dX3_step_84 : decode cX3_step 84 = .ok (.iinc 1 (-1), 3) := by decide +kernel
theorem dX3_step_87 : decode cX3_step 87 = .ok (.goto (-17), 3) := by decide +kernel
theorem dX3_step_90 : decode cX3_step 90 = .ok (.aload_n 0, 1) := by decide +kernel
theorem dX3_step_91 : decode cX3_step 91 = .ok (.getfield 46, 3) := by decide +kernel
theorem dX3_step_94 : decode cX3_step 94 = .ok (.ifCond .le 43, 3) := by decide +kernel
theorem dX3_step_137 : decode cX3_step 137 = .ok (.aload_n 0, 1) := by decide +kernel
theorem dX3_step_138 : decode cX3_step 138 = .ok (.dup, 1) := by decide +kernel
theorem dX3_step_139 : decode cX3_step 139 = .ok (.getfield 78, 3) := by decide +kernel
theorem dX3_step_142 : decode cX3_step 142 = .ok (.iconst 1, 1) := by decide +kernel
theorem dX3_step_143 : decode cX3_step 143 = .ok (.iadd, 1) := by decide +kernel
theorem dX3_step_144 : decode cX3_step 144 = .ok (.putfield 78, 3) := by decide +kernel
theorem dX3_step_147 : decode cX3_step 147 = .ok (.return_, 1) := by decide +kernel
set_option maxRecDepth 20000 in
theorem ggX3_arriveOver_X1_hear : GoodIn wsX3_arriveOver wsX1_hear := goodIn_r _ [13, 14, 15, 16, 17, 56, 57, 58, 59, 60, 61, 62] (by decide +kernel) (by decide +kernel)
set_option maxRecDepth 20000 in
theorem gX3_arriveOver_X1_hear : GoodIn wsX3_arriveOver (wsV RX3 132 RX1 yX1_hear wsX1_hear) := goodIn_app (goodIn_of _ (by decide +kernel)) ggX3_arriveOver_X1_hear
set_option maxRecDepth 20000 in
theorem ggX3_arriveOver_X2_clearSlot : GoodIn wsX3_arriveOver wsX2_clearSlot := goodIn_r _ [31, 32, 33, 34, 46, 47, 48, 49, 50, 51, 52, 53, 54, 55] (by decide +kernel) (by decide +kernel)
set_option maxRecDepth 20000 in
theorem gX3_arriveOver_X2_clearSlot : GoodIn wsX3_arriveOver (wsV RX3 144 RX2 yX2_clearSlot wsX2_clearSlot) := goodIn_app (goodIn_of _ (by decide +kernel)) ggX3_arriveOver_X2_clearSlot
theorem dX3_arriveOver_0 : decode cX3_arriveOver 0 = .ok (.aload_n 0, 1) := by decide +kernel
theorem dX3_arriveOver_1 : decode cX3_arriveOver 1 = .ok (.getfield 11, 3) := by decide +kernel
theorem dX3_arriveOver_4 : decode cX3_arriveOver 4 = .ok (.iload_n 1, 1) := by decide +kernel
theorem dX3_arriveOver_5 : decode cX3_arriveOver 5 = .ok (.aaload, 1) := by decide +kernel
theorem dX3_arriveOver_6 : decode cX3_arriveOver 6 = .ok (.astore_n 2, 1) := by decide +kernel
theorem dX3_arriveOver_7 : decode cX3_arriveOver 7 = .ok (.aload_n 0, 1) := by decide +kernel
theorem dX3_arriveOver_8 : decode cX3_arriveOver 8 = .ok (.getfield 78, 3) := by decide +kernel
theorem dX3_arriveOver_11 : decode cX3_arriveOver 11 = .ok (.iconst 5, 1) := by decide +kernel
theorem dX3_arriveOver_12 : decode cX3_arriveOver 12 = .ok (.irem, 1) := by decide +kernel
theorem dX3_arriveOver_13 : decode cX3_arriveOver 13 = .ok (.istore_n 3, 1) := by decide +kernel
theorem dX3_arriveOver_14 : decode cX3_arriveOver 14 = .ok (.aload_n 2, 1) := by decide +kernel
theorem dX3_arriveOver_15 : decode cX3_arriveOver 15 = .ok (.getfield 122, 3) := by decide +kernel
theorem dX3_arriveOver_18 : decode cX3_arriveOver 18 = .ok (.iload_n 3, 1) := by decide +kernel
theorem dX3_arriveOver_19 : decode cX3_arriveOver 19 = .ok (.iaload, 1) := by decide +kernel
theorem dX3_arriveOver_20 : decode cX3_arriveOver 20 = .ok (.istore 4, 2) := by decide +kernel
theorem dX3_arriveOver_22 : decode cX3_arriveOver 22 = .ok (.iload 4, 2) := by decide +kernel
theorem dX3_arriveOver_24 : decode cX3_arriveOver 24 = .ok (.iconst (-1), 1) := by decide +kernel
theorem dX3_arriveOver_25 : decode cX3_arriveOver 25 = .ok (.if_icmp .eq 20, 3) := by decide +kernel
theorem dX3_arriveOver_28 : decode cX3_arriveOver 28 = .ok (.aload_n 0, 1) := by decide +kernel
theorem dX3_arriveOver_29 : decode cX3_arriveOver 29 = .ok (.getfield 23, 3) := by decide +kernel
theorem dX3_arriveOver_32 : decode cX3_arriveOver 32 = .ok (.iload_n 1, 1) := by decide +kernel
theorem dX3_arriveOver_33 : decode cX3_arriveOver 33 = .ok (.iconst 1, 1) := by decide +kernel
theorem dX3_arriveOver_34 : decode cX3_arriveOver 34 = .ok (.iadd, 1) := by decide +kernel
theorem dX3_arriveOver_35 : decode cX3_arriveOver 35 = .ok (.iconst 3, 1) := by decide +kernel
theorem dX3_arriveOver_36 : decode cX3_arriveOver 36 = .ok (.imul, 1) := by decide +kernel
theorem dX3_arriveOver_37 : decode cX3_arriveOver 37 = .ok (.iload 4, 2) := by decide +kernel
theorem dX3_arriveOver_39 : decode cX3_arriveOver 39 = .ok (.iadd, 1) := by decide +kernel
theorem dX3_arriveOver_40 : decode cX3_arriveOver 40 = .ok (.dup2, 1) := by decide +kernel
theorem dX3_arriveOver_41 : decode cX3_arriveOver 41 = .ok (.iaload, 1) := by decide +kernel
theorem dX3_arriveOver_42 : decode cX3_arriveOver 42 = .ok (.iconst 1, 1) := by decide +kernel
theorem dX3_arriveOver_43 : decode cX3_arriveOver 43 = .ok (.iadd, 1) := by decide +kernel
theorem dX3_arriveOver_44 : decode cX3_arriveOver 44 = .ok (.iastore, 1) := by decide +kernel
theorem dX3_arriveOver_45 : decode cX3_arriveOver 45 = .ok (.iconst 0, 1) := by decide +kernel
theorem dX3_arriveOver_46 : decode cX3_arriveOver 46 = .ok (.istore 5, 2) := by decide +kernel
theorem dX3_arriveOver_48 : decode cX3_arriveOver 48 = .ok (.iload 5, 2) := by decide +kernel
theorem dX3_arriveOver_50 : decode cX3_arriveOver 50 = .ok (.aload_n 0, 1) := by decide +kernel
theorem dX3_arriveOver_51 : decode cX3_arriveOver 51 = .ok (.getfield 62, 3) := by decide +kernel
theorem dX3_arriveOver_54 : decode cX3_arriveOver 54 = .ok (.if_icmp .ge 76, 3) := by decide +kernel
theorem dX3_arriveOver_57 : decode cX3_arriveOver 57 = .ok (.aload_n 2, 1) := by decide +kernel
theorem dX3_arriveOver_58 : decode cX3_arriveOver 58 = .ok (.getfield 125, 3) := by decide +kernel
theorem dX3_arriveOver_61 : decode cX3_arriveOver 61 = .ok (.iload_n 3, 1) := by decide +kernel
theorem dX3_arriveOver_62 : decode cX3_arriveOver 62 = .ok (.iconst 3, 1) := by decide +kernel
theorem dX3_arriveOver_63 : decode cX3_arriveOver 63 = .ok (.imul, 1) := by decide +kernel
theorem dX3_arriveOver_64 : decode cX3_arriveOver 64 = .ok (.iload 5, 2) := by decide +kernel
theorem dX3_arriveOver_66 : decode cX3_arriveOver 66 = .ok (.iadd, 1) := by decide +kernel
theorem dX3_arriveOver_67 : decode cX3_arriveOver 67 = .ok (.iaload, 1) := by decide +kernel
theorem dX3_arriveOver_68 : decode cX3_arriveOver 68 = .ok (.istore 6, 2) := by decide +kernel
theorem dX3_arriveOver_70 : decode cX3_arriveOver 70 = .ok (.iload 6, 2) := by decide +kernel
theorem dX3_arriveOver_72 : decode cX3_arriveOver 72 = .ok (.iconst (-1), 1) := by decide +kernel
theorem dX3_arriveOver_73 : decode cX3_arriveOver 73 = .ok (.if_icmp .eq 15, 3) := by decide +kernel
theorem dX3_arriveOver_76 : decode cX3_arriveOver 76 = .ok (.aload_n 2, 1) := by decide +kernel
theorem dX3_arriveOver_77 : decode cX3_arriveOver 77 = .ok (.getfield 128, 3) := by decide +kernel
theorem dX3_arriveOver_80 : decode cX3_arriveOver 80 = .ok (.iload 5, 2) := by decide +kernel
theorem dX3_arriveOver_82 : decode cX3_arriveOver 82 = .ok (.aaload, 1) := by decide +kernel
theorem dX3_arriveOver_83 : decode cX3_arriveOver 83 = .ok (.iload 6, 2) := by decide +kernel
theorem dX3_arriveOver_85 : decode cX3_arriveOver 85 = .ok (.invokevirtual 132, 3) := by decide +kernel
theorem dX3_arriveOver_88 : decode cX3_arriveOver 88 = .ok (.aload_n 2, 1) := by decide +kernel
theorem dX3_arriveOver_89 : decode cX3_arriveOver 89 = .ok (.getfield 137, 3) := by decide +kernel
theorem dX3_arriveOver_92 : decode cX3_arriveOver 92 = .ok (.iload_n 3, 1) := by decide +kernel
theorem dX3_arriveOver_93 : decode cX3_arriveOver 93 = .ok (.iconst 3, 1) := by decide +kernel
theorem dX3_arriveOver_94 : decode cX3_arriveOver 94 = .ok (.imul, 1) := by decide +kernel
theorem dX3_arriveOver_95 : decode cX3_arriveOver 95 = .ok (.iload 5, 2) := by decide +kernel
theorem dX3_arriveOver_97 : decode cX3_arriveOver 97 = .ok (.iadd, 1) := by decide +kernel
theorem dX3_arriveOver_98 : decode cX3_arriveOver 98 = .ok (.iaload, 1) := by decide +kernel
theorem dX3_arriveOver_99 : decode cX3_arriveOver 99 = .ok (.istore 7, 2) := by decide +kernel
theorem dX3_arriveOver_101 : decode cX3_arriveOver 101 = .ok (.iconst 0, 1) := by decide +kernel
theorem dX3_arriveOver_102 : decode cX3_arriveOver 102 = .ok (.istore 8, 2) := by decide +kernel
theorem dX3_arriveOver_104 : decode cX3_arriveOver 104 = .ok (.iload 8, 2) := by decide +kernel
theorem dX3_arriveOver_106 : decode cX3_arriveOver 106 = .ok (.iload 7, 2) := by decide +kernel
theorem dX3_arriveOver_108 : decode cX3_arriveOver 108 = .ok (.if_icmp .ge 16, 3) := by decide +kernel
theorem dX3_arriveOver_124 : decode cX3_arriveOver 124 = .ok (.iinc 5 1, 3) := by decide +kernel
theorem dX3_arriveOver_127 : decode cX3_arriveOver 127 = .ok (.goto (-79), 3) := by decide +kernel
theorem dX3_arriveOver_130 : decode cX3_arriveOver 130 = .ok (.aload_n 2, 1) := by decide +kernel
theorem dX3_arriveOver_131 : decode cX3_arriveOver 131 = .ok (.iload_n 3, 1) := by decide +kernel
theorem dX3_arriveOver_132 : decode cX3_arriveOver 132 = .ok (.invokevirtual 144, 3) := by decide +kernel
theorem dX3_arriveOver_135 : decode cX3_arriveOver 135 = .ok (.return_, 1) := by decide +kernel
set_option maxRecDepth 20000 in
theorem ggX3_come_X0_comesIn : GoodIn wsX3_come wsX0_comesIn := goodIn_r _ [11, 12, 13, 25, 26, 27, 28, 29, 30, 31, 32] (by decide +kernel) (by decide +kernel)
set_option maxRecDepth 20000 in
theorem gX3_come_X0_comesIn : GoodIn wsX3_come (wsV RX3 151 RX0 yX0_comesIn wsX0_comesIn) := goodIn_app (goodIn_of _ (by decide +kernel)) ggX3_come_X0_comesIn
theorem dX3_come_0 : decode cX3_come 0 = .ok (.aload_n 0, 1) := by decide +kernel
theorem dX3_come_1 : decode cX3_come 1 = .ok (.getfield 19, 3) := by decide +kernel
theorem dX3_come_4 : decode cX3_come 4 = .ok (.iload_n 1, 1) := by decide +kernel
theorem dX3_come_5 : decode cX3_come 5 = .ok (.aaload, 1) := by decide +kernel
theorem dX3_come_6 : decode cX3_come 6 = .ok (.astore_n 2, 1) := by decide +kernel
theorem dX3_come_7 : decode cX3_come 7 = .ok (.aload_n 2, 1) := by decide +kernel
theorem dX3_come_8 : decode cX3_come 8 = .ok (.iconst 0, 1) := by decide +kernel
theorem dX3_come_9 : decode cX3_come 9 = .ok (.putfield 147, 3) := by decide +kernel
theorem dX3_come_12 : decode cX3_come 12 = .ok (.aload_n 2, 1) := by decide +kernel
theorem dX3_come_13 : decode cX3_come 13 = .ok (.aload_n 0, 1) := by decide +kernel
theorem dX3_come_14 : decode cX3_come 14 = .ok (.getfield 78, 3) := by decide +kernel
theorem dX3_come_17 : decode cX3_come 17 = .ok (.invokevirtual 151, 3) := by decide +kernel
theorem dX3_come_20 : decode cX3_come 20 = .ok (.ifCond .ne 4, 3) := by decide +kernel
theorem dX3_come_23 : decode cX3_come 23 = .ok (.return_, 1) := by decide +kernel
set_option maxRecDepth 20000 in
theorem ggX3_take_X0_takesIn : GoodIn wsX3_take wsX0_takesIn := goodIn_r _ [11, 12, 42, 43, 44, 45, 46, 47, 48, 49] (by decide +kernel) (by decide +kernel)
set_option maxRecDepth 20000 in
theorem gX3_take_X0_takesIn : GoodIn wsX3_take (wsV RX3 161 RX0 yX0_takesIn wsX0_takesIn) := goodIn_app (goodIn_of _ (by decide +kernel)) ggX3_take_X0_takesIn
set_option maxRecDepth 20000 in
theorem ggX3_take_X3_goneFrom : GoodIn wsX3_take wsX3_goneFrom := goodIn_r _ [17, 18, 19, 20, 21, 22, 23, 24, 25, 16, 26, 27, 28, 29, 3, 30, 31, 32, 33, 34, 35, 36, 37, 38, 39, 40, 41, 50, 51, 52, 53, 54, 55, 56, 57, 58, 59, 60, 61, 62, 63, 64, 65, 66] (by decide +kernel) (by decide +kernel)
set_option maxRecDepth 20000 in
theorem gX3_take_X3_goneFrom : GoodIn wsX3_take (wsV RX3 170 RX3 yX3_goneFrom wsX3_goneFrom) := goodIn_app (goodIn_of _ (by decide +kernel)) ggX3_take_X3_goneFrom
theorem dX3_take_0 : decode cX3_take 0 = .ok (.aload_n 0, 1) := by decide +kernel
theorem dX3_take_1 : decode cX3_take 1 = .ok (.getfield 19, 3) := by decide +kernel
theorem dX3_take_4 : decode cX3_take 4 = .ok (.iload_n 1, 1) := by decide +kernel
theorem dX3_take_5 : decode cX3_take 5 = .ok (.aaload, 1) := by decide +kernel
theorem dX3_take_6 : decode cX3_take 6 = .ok (.astore_n 2, 1) := by decide +kernel
theorem dX3_take_7 : decode cX3_take 7 = .ok (.aload_n 0, 1) := by decide +kernel
theorem dX3_take_8 : decode cX3_take 8 = .ok (.getfield 53, 3) := by decide +kernel
theorem dX3_take_11 : decode cX3_take 11 = .ok (.iconst 3, 1) := by decide +kernel
theorem dX3_take_12 : decode cX3_take 12 = .ok (.imul, 1) := by decide +kernel
theorem dX3_take_13 : decode cX3_take 13 = .ok (.iload_n 1, 1) := by decide +kernel
theorem dX3_take_14 : decode cX3_take 14 = .ok (.iadd, 1) := by decide +kernel
theorem dX3_take_15 : decode cX3_take 15 = .ok (.istore_n 3, 1) := by decide +kernel
theorem dX3_take_16 : decode cX3_take 16 = .ok (.aload_n 2, 1) := by decide +kernel
theorem dX3_take_17 : decode cX3_take 17 = .ok (.aload_n 2, 1) := by decide +kernel
theorem dX3_take_18 : decode cX3_take 18 = .ok (.aload_n 0, 1) := by decide +kernel
theorem dX3_take_19 : decode cX3_take 19 = .ok (.getfield 78, 3) := by decide +kernel
theorem dX3_take_22 : decode cX3_take 22 = .ok (.invokevirtual 161, 3) := by decide +kernel
theorem dX3_take_25 : decode cX3_take 25 = .ok (.ifCond .eq 16, 3) := by decide +kernel
theorem dX3_take_28 : decode cX3_take 28 = .ok (.aload_n 0, 1) := by decide +kernel
theorem dX3_take_29 : decode cX3_take 29 = .ok (.getfield 23, 3) := by decide +kernel
theorem dX3_take_32 : decode cX3_take 32 = .ok (.iload_n 3, 1) := by decide +kernel
theorem dX3_take_33 : decode cX3_take 33 = .ok (.iaload, 1) := by decide +kernel
theorem dX3_take_34 : decode cX3_take 34 = .ok (.ifCond .le 7, 3) := by decide +kernel
theorem dX3_take_37 : decode cX3_take 37 = .ok (.iconst 1, 1) := by decide +kernel
theorem dX3_take_38 : decode cX3_take 38 = .ok (.goto 4, 3) := by decide +kernel
theorem dX3_take_41 : decode cX3_take 41 = .ok (.iconst 0, 1) := by decide +kernel
theorem dX3_take_42 : decode cX3_take 42 = .ok (.putfield 164, 3) := by decide +kernel
theorem dX3_take_45 : decode cX3_take 45 = .ok (.aload_n 2, 1) := by decide +kernel
theorem dX3_take_46 : decode cX3_take 46 = .ok (.getfield 164, 3) := by decide +kernel
theorem dX3_take_49 : decode cX3_take 49 = .ok (.ifCond .eq 34, 3) := by decide +kernel
theorem dX3_take_52 : decode cX3_take 52 = .ok (.aload_n 0, 1) := by decide +kernel
theorem dX3_take_53 : decode cX3_take 53 = .ok (.getfield 23, 3) := by decide +kernel
theorem dX3_take_56 : decode cX3_take 56 = .ok (.iload_n 3, 1) := by decide +kernel
theorem dX3_take_57 : decode cX3_take 57 = .ok (.dup2, 1) := by decide +kernel
theorem dX3_take_58 : decode cX3_take 58 = .ok (.iaload, 1) := by decide +kernel
theorem dX3_take_59 : decode cX3_take 59 = .ok (.iconst 1, 1) := by decide +kernel
theorem dX3_take_60 : decode cX3_take 60 = .ok (.isub, 1) := by decide +kernel
theorem dX3_take_61 : decode cX3_take 61 = .ok (.iastore, 1) := by decide +kernel
theorem dX3_take_62 : decode cX3_take 62 = .ok (.aload_n 2, 1) := by decide +kernel
theorem dX3_take_63 : decode cX3_take 63 = .ok (.dup, 1) := by decide +kernel
theorem dX3_take_64 : decode cX3_take 64 = .ok (.getfield 167, 3) := by decide +kernel
theorem dX3_take_67 : decode cX3_take 67 = .ok (.iconst 1, 1) := by decide +kernel
theorem dX3_take_68 : decode cX3_take 68 = .ok (.iadd, 1) := by decide +kernel
theorem dX3_take_69 : decode cX3_take 69 = .ok (.putfield 167, 3) := by decide +kernel
theorem dX3_take_72 : decode cX3_take 72 = .ok (.aload_n 0, 1) := by decide +kernel
theorem dX3_take_73 : decode cX3_take 73 = .ok (.aload_n 0, 1) := by decide +kernel
theorem dX3_take_74 : decode cX3_take 74 = .ok (.getfield 53, 3) := by decide +kernel
theorem dX3_take_77 : decode cX3_take 77 = .ok (.iconst 1, 1) := by decide +kernel
theorem dX3_take_78 : decode cX3_take 78 = .ok (.isub, 1) := by decide +kernel
theorem dX3_take_79 : decode cX3_take 79 = .ok (.iload_n 1, 1) := by decide +kernel
theorem dX3_take_80 : decode cX3_take 80 = .ok (.invokevirtual 170, 3) := by decide +kernel
theorem dX3_take_83 : decode cX3_take 83 = .ok (.return_, 1) := by decide +kernel
set_option maxRecDepth 20000 in
theorem ggX3_sendOver_X3_nextSender : GoodIn wsX3_sendOver wsX3_nextSender := goodIn_r _ [15, 1, 16, 3, 8, 7, 17, 18, 19, 20, 21, 22, 23, 24, 39, 40, 41, 42, 43, 44, 45, 46, 47, 48, 49, 50, 51, 52, 53, 54, 55, 56, 57, 58, 59, 60, 61, 62, 63, 64, 65, 66] (by decide +kernel) (by decide +kernel)
set_option maxRecDepth 20000 in
theorem gX3_sendOver_X3_nextSender : GoodIn wsX3_sendOver (wsV RX3 174 RX3 yX3_nextSender wsX3_nextSender) := goodIn_app (goodIn_of _ (by decide +kernel)) ggX3_sendOver_X3_nextSender
theorem dX3_sendOver_0 : decode cX3_sendOver 0 = .ok (.aload_n 0, 1) := by decide +kernel
theorem dX3_sendOver_1 : decode cX3_sendOver 1 = .ok (.getfield 11, 3) := by decide +kernel
theorem dX3_sendOver_4 : decode cX3_sendOver 4 = .ok (.iload_n 1, 1) := by decide +kernel
theorem dX3_sendOver_5 : decode cX3_sendOver 5 = .ok (.aaload, 1) := by decide +kernel
theorem dX3_sendOver_6 : decode cX3_sendOver 6 = .ok (.astore_n 2, 1) := by decide +kernel
theorem dX3_sendOver_7 : decode cX3_sendOver 7 = .ok (.aload_n 0, 1) := by decide +kernel
theorem dX3_sendOver_8 : decode cX3_sendOver 8 = .ok (.iload_n 1, 1) := by decide +kernel
theorem dX3_sendOver_9 : decode cX3_sendOver 9 = .ok (.invokevirtual 174, 3) := by decide +kernel
theorem dX3_sendOver_12 : decode cX3_sendOver 12 = .ok (.istore_n 3, 1) := by decide +kernel
theorem dX3_sendOver_13 : decode cX3_sendOver 13 = .ok (.aload_n 2, 1) := by decide +kernel
theorem dX3_sendOver_14 : decode cX3_sendOver 14 = .ok (.iload_n 3, 1) := by decide +kernel
theorem dX3_sendOver_15 : decode cX3_sendOver 15 = .ok (.putfield 177, 3) := by decide +kernel
theorem dX3_sendOver_18 : decode cX3_sendOver 18 = .ok (.iload_n 3, 1) := by decide +kernel
theorem dX3_sendOver_19 : decode cX3_sendOver 19 = .ok (.iconst (-1), 1) := by decide +kernel
theorem dX3_sendOver_20 : decode cX3_sendOver 20 = .ok (.if_icmp .ne 4, 3) := by decide +kernel
theorem dX3_sendOver_23 : decode cX3_sendOver 23 = .ok (.return_, 1) := by decide +kernel
theorem dX3_sendOver_24 : decode cX3_sendOver 24 = .ok (.aload_n 2, 1) := by decide +kernel
theorem dX3_sendOver_25 : decode cX3_sendOver 25 = .ok (.iload_n 3, 1) := by decide +kernel
theorem dX3_sendOver_26 : decode cX3_sendOver 26 = .ok (.putfield 180, 3) := by decide +kernel
theorem dX3_sendOver_29 : decode cX3_sendOver 29 = .ok (.aload_n 2, 1) := by decide +kernel
theorem dX3_sendOver_30 : decode cX3_sendOver 30 = .ok (.getfield 122, 3) := by decide +kernel
theorem dX3_sendOver_33 : decode cX3_sendOver 33 = .ok (.aload_n 0, 1) := by decide +kernel
theorem dX3_sendOver_34 : decode cX3_sendOver 34 = .ok (.getfield 78, 3) := by decide +kernel
theorem dX3_sendOver_37 : decode cX3_sendOver 37 = .ok (.aload_n 2, 1) := by decide +kernel
theorem dX3_sendOver_38 : decode cX3_sendOver 38 = .ok (.getfield 183, 3) := by decide +kernel
theorem dX3_sendOver_41 : decode cX3_sendOver 41 = .ok (.iadd, 1) := by decide +kernel
theorem dX3_sendOver_42 : decode cX3_sendOver 42 = .ok (.iconst 5, 1) := by decide +kernel
theorem dX3_sendOver_43 : decode cX3_sendOver 43 = .ok (.irem, 1) := by decide +kernel
theorem dX3_sendOver_44 : decode cX3_sendOver 44 = .ok (.iload_n 3, 1) := by decide +kernel
theorem dX3_sendOver_45 : decode cX3_sendOver 45 = .ok (.iastore, 1) := by decide +kernel
theorem dX3_sendOver_46 : decode cX3_sendOver 46 = .ok (.aload_n 0, 1) := by decide +kernel
theorem dX3_sendOver_47 : decode cX3_sendOver 47 = .ok (.getfield 23, 3) := by decide +kernel
theorem dX3_sendOver_50 : decode cX3_sendOver 50 = .ok (.iload_n 1, 1) := by decide +kernel
theorem dX3_sendOver_51 : decode cX3_sendOver 51 = .ok (.iconst 3, 1) := by decide +kernel
theorem dX3_sendOver_52 : decode cX3_sendOver 52 = .ok (.imul, 1) := by decide +kernel
theorem dX3_sendOver_53 : decode cX3_sendOver 53 = .ok (.iload_n 3, 1) := by decide +kernel
theorem dX3_sendOver_54 : decode cX3_sendOver 54 = .ok (.iadd, 1) := by decide +kernel
theorem dX3_sendOver_55 : decode cX3_sendOver 55 = .ok (.dup2, 1) := by decide +kernel
theorem dX3_sendOver_56 : decode cX3_sendOver 56 = .ok (.iaload, 1) := by decide +kernel
theorem dX3_sendOver_57 : decode cX3_sendOver 57 = .ok (.iconst 1, 1) := by decide +kernel
theorem dX3_sendOver_58 : decode cX3_sendOver 58 = .ok (.isub, 1) := by decide +kernel
theorem dX3_sendOver_59 : decode cX3_sendOver 59 = .ok (.iastore, 1) := by decide +kernel
theorem dX3_sendOver_60 : decode cX3_sendOver 60 = .ok (.aload_n 2, 1) := by decide +kernel
theorem dX3_sendOver_61 : decode cX3_sendOver 61 = .ok (.getfield 128, 3) := by decide +kernel
theorem dX3_sendOver_64 : decode cX3_sendOver 64 = .ok (.iload_n 3, 1) := by decide +kernel
theorem dX3_sendOver_65 : decode cX3_sendOver 65 = .ok (.aaload, 1) := by decide +kernel
theorem dX3_sendOver_66 : decode cX3_sendOver 66 = .ok (.astore 4, 2) := by decide +kernel
theorem dX3_sendOver_68 : decode cX3_sendOver 68 = .ok (.aload 4, 2) := by decide +kernel
theorem dX3_sendOver_70 : decode cX3_sendOver 70 = .ok (.aload 4, 2) := by decide +kernel
theorem dX3_sendOver_72 : decode cX3_sendOver 72 = .ok (.getfield 186, 3) := by decide +kernel
theorem dX3_sendOver_75 : decode cX3_sendOver 75 = .ok (.iconst 1, 1) := by decide +kernel
theorem dX3_sendOver_76 : decode cX3_sendOver 76 = .ok (.iadd, 1) := by decide +kernel
theorem dX3_sendOver_77 : decode cX3_sendOver 77 = .ok (.bipush 63, 2) := by decide +kernel
theorem dX3_sendOver_79 : decode cX3_sendOver 79 = .ok (.iand, 1) := by decide +kernel
theorem dX3_sendOver_80 : decode cX3_sendOver 80 = .ok (.putfield 186, 3) := by decide +kernel
theorem dX3_sendOver_83 : decode cX3_sendOver 83 = .ok (.aload 4, 2) := by decide +kernel
theorem dX3_sendOver_85 : decode cX3_sendOver 85 = .ok (.dup, 1) := by decide +kernel
theorem dX3_sendOver_86 : decode cX3_sendOver 86 = .ok (.getfield 189, 3) := by decide +kernel
theorem dX3_sendOver_89 : decode cX3_sendOver 89 = .ok (.iconst 1, 1) := by decide +kernel
theorem dX3_sendOver_90 : decode cX3_sendOver 90 = .ok (.iadd, 1) := by decide +kernel
theorem dX3_sendOver_91 : decode cX3_sendOver 91 = .ok (.putfield 189, 3) := by decide +kernel
theorem dX3_sendOver_94 : decode cX3_sendOver 94 = .ok (.iload_n 1, 1) := by decide +kernel
end
section
theorem dX3_sendOver_95 : decode cX3_sendOver 95 = .ok (.ifCond .le 11, 3) := by decide +kernel
theorem dX3_sendOver_106 : decode cX3_sendOver 106 = .ok (.return_, 1) := by decide +kernel
set_option maxRecDepth 20000 in
theorem ggX3_nextSender_X1_out : GoodIn wsX3_nextSender wsX1_out := goodIn_r _ [11, 12, 13, 35, 36, 37, 38, 39, 40, 41] (by decide +kernel) (by decide +kernel)
set_option maxRecDepth 20000 in
theorem gX3_nextSender_X1_out : GoodIn wsX3_nextSender (wsV RX3 192 RX1 yX1_out wsX1_out) := goodIn_app (goodIn_of _ (by decide +kernel)) ggX3_nextSender_X1_out
theorem dX3_nextSender_0 : decode cX3_nextSender 0 = .ok (.aload_n 0, 1) := by decide +kernel
theorem dX3_nextSender_1 : decode cX3_nextSender 1 = .ok (.getfield 11, 3) := by decide +kernel
theorem dX3_nextSender_4 : decode cX3_nextSender 4 = .ok (.iload_n 1, 1) := by decide +kernel
theorem dX3_nextSender_5 : decode cX3_nextSender 5 = .ok (.aaload, 1) := by decide +kernel
theorem dX3_nextSender_6 : decode cX3_nextSender 6 = .ok (.astore_n 2, 1) := by decide +kernel
theorem dX3_nextSender_7 : decode cX3_nextSender 7 = .ok (.iconst 1, 1) := by decide +kernel
theorem dX3_nextSender_8 : decode cX3_nextSender 8 = .ok (.istore_n 3, 1) := by decide +kernel
theorem dX3_nextSender_9 : decode cX3_nextSender 9 = .ok (.iload_n 3, 1) := by decide +kernel
theorem dX3_nextSender_10 : decode cX3_nextSender 10 = .ok (.aload_n 0, 1) := by decide +kernel
theorem dX3_nextSender_11 : decode cX3_nextSender 11 = .ok (.getfield 62, 3) := by decide +kernel
theorem dX3_nextSender_14 : decode cX3_nextSender 14 = .ok (.if_icmp .gt 61, 3) := by decide +kernel
theorem dX3_nextSender_17 : decode cX3_nextSender 17 = .ok (.aload_n 2, 1) := by decide +kernel
theorem dX3_nextSender_18 : decode cX3_nextSender 18 = .ok (.getfield 180, 3) := by decide +kernel
theorem dX3_nextSender_21 : decode cX3_nextSender 21 = .ok (.iload_n 3, 1) := by decide +kernel
theorem dX3_nextSender_22 : decode cX3_nextSender 22 = .ok (.iadd, 1) := by decide +kernel
theorem dX3_nextSender_23 : decode cX3_nextSender 23 = .ok (.aload_n 0, 1) := by decide +kernel
theorem dX3_nextSender_24 : decode cX3_nextSender 24 = .ok (.getfield 62, 3) := by decide +kernel
theorem dX3_nextSender_27 : decode cX3_nextSender 27 = .ok (.irem, 1) := by decide +kernel
theorem dX3_nextSender_28 : decode cX3_nextSender 28 = .ok (.istore 4, 2) := by decide +kernel
theorem dX3_nextSender_30 : decode cX3_nextSender 30 = .ok (.aload_n 2, 1) := by decide +kernel
theorem dX3_nextSender_31 : decode cX3_nextSender 31 = .ok (.getfield 128, 3) := by decide +kernel
theorem dX3_nextSender_34 : decode cX3_nextSender 34 = .ok (.iload 4, 2) := by decide +kernel
theorem dX3_nextSender_36 : decode cX3_nextSender 36 = .ok (.aaload, 1) := by decide +kernel
theorem dX3_nextSender_37 : decode cX3_nextSender 37 = .ok (.astore 5, 2) := by decide +kernel
theorem dX3_nextSender_39 : decode cX3_nextSender 39 = .ok (.aload_n 0, 1) := by decide +kernel
theorem dX3_nextSender_40 : decode cX3_nextSender 40 = .ok (.getfield 23, 3) := by decide +kernel
theorem dX3_nextSender_43 : decode cX3_nextSender 43 = .ok (.iload_n 1, 1) := by decide +kernel
theorem dX3_nextSender_44 : decode cX3_nextSender 44 = .ok (.iconst 3, 1) := by decide +kernel
theorem dX3_nextSender_45 : decode cX3_nextSender 45 = .ok (.imul, 1) := by decide +kernel
theorem dX3_nextSender_46 : decode cX3_nextSender 46 = .ok (.iload 4, 2) := by decide +kernel
theorem dX3_nextSender_48 : decode cX3_nextSender 48 = .ok (.iadd, 1) := by decide +kernel
theorem dX3_nextSender_49 : decode cX3_nextSender 49 = .ok (.iaload, 1) := by decide +kernel
theorem dX3_nextSender_50 : decode cX3_nextSender 50 = .ok (.ifCond .le 19, 3) := by decide +kernel
theorem dX3_nextSender_53 : decode cX3_nextSender 53 = .ok (.aload 5, 2) := by decide +kernel
theorem dX3_nextSender_55 : decode cX3_nextSender 55 = .ok (.invokevirtual 192, 3) := by decide +kernel
theorem dX3_nextSender_58 : decode cX3_nextSender 58 = .ok (.aload 5, 2) := by decide +kernel
theorem dX3_nextSender_60 : decode cX3_nextSender 60 = .ok (.getfield 195, 3) := by decide +kernel
theorem dX3_nextSender_63 : decode cX3_nextSender 63 = .ok (.if_icmp .ge 6, 3) := by decide +kernel
theorem dX3_nextSender_66 : decode cX3_nextSender 66 = .ok (.iload 4, 2) := by decide +kernel
theorem dX3_nextSender_68 : decode cX3_nextSender 68 = .ok (.ireturn, 1) := by decide +kernel
theorem dX3_nextSender_69 : decode cX3_nextSender 69 = .ok (.iinc 3 1, 3) := by decide +kernel
theorem dX3_nextSender_72 : decode cX3_nextSender 72 = .ok (.goto (-63), 3) := by decide +kernel
theorem dX3_nextSender_75 : decode cX3_nextSender 75 = .ok (.iconst (-1), 1) := by decide +kernel
theorem dX3_nextSender_76 : decode cX3_nextSender 76 = .ok (.ireturn, 1) := by decide +kernel
set_option maxRecDepth 20000 in
theorem ggX3_goneFrom_X3_sendUpdate : GoodIn wsX3_goneFrom wsX3_sendUpdate := goodIn_r _ [10, 11, 12, 13, 14, 15, 2, 3, 27, 28, 29, 30, 31, 32, 33, 34, 35, 36, 16, 17, 18, 19, 20, 21, 22, 23, 24, 25, 26, 37, 38, 39, 40, 41, 42, 43] (by decide +kernel) (by decide +kernel)
set_option maxRecDepth 20000 in
theorem gX3_goneFrom_X3_sendUpdate : GoodIn wsX3_goneFrom (wsV RX3 140 RX3 yX3_sendUpdate wsX3_sendUpdate) := goodIn_app (goodIn_of _ (by decide +kernel)) ggX3_goneFrom_X3_sendUpdate
theorem dX3_goneFrom_0 : decode cX3_goneFrom 0 = .ok (.aload_n 0, 1) := by decide +kernel
theorem dX3_goneFrom_1 : decode cX3_goneFrom 1 = .ok (.getfield 11, 3) := by decide +kernel
theorem dX3_goneFrom_4 : decode cX3_goneFrom 4 = .ok (.iload_n 1, 1) := by decide +kernel
theorem dX3_goneFrom_5 : decode cX3_goneFrom 5 = .ok (.aaload, 1) := by decide +kernel
theorem dX3_goneFrom_6 : decode cX3_goneFrom 6 = .ok (.astore_n 3, 1) := by decide +kernel
theorem dX3_goneFrom_7 : decode cX3_goneFrom 7 = .ok (.aload_n 3, 1) := by decide +kernel
theorem dX3_goneFrom_8 : decode cX3_goneFrom 8 = .ok (.getfield 128, 3) := by decide +kernel
theorem dX3_goneFrom_11 : decode cX3_goneFrom 11 = .ok (.iload_n 2, 1) := by decide +kernel
theorem dX3_goneFrom_12 : decode cX3_goneFrom 12 = .ok (.aaload, 1) := by decide +kernel
theorem dX3_goneFrom_13 : decode cX3_goneFrom 13 = .ok (.astore 4, 2) := by decide +kernel
theorem dX3_goneFrom_15 : decode cX3_goneFrom 15 = .ok (.aload 4, 2) := by decide +kernel
theorem dX3_goneFrom_17 : decode cX3_goneFrom 17 = .ok (.aload 4, 2) := by decide +kernel
theorem dX3_goneFrom_19 : decode cX3_goneFrom 19 = .ok (.getfield 198, 3) := by decide +kernel
theorem dX3_goneFrom_22 : decode cX3_goneFrom 22 = .ok (.iconst 1, 1) := by decide +kernel
theorem dX3_goneFrom_23 : decode cX3_goneFrom 23 = .ok (.iadd, 1) := by decide +kernel
theorem dX3_goneFrom_24 : decode cX3_goneFrom 24 = .ok (.bipush 63, 2) := by decide +kernel
theorem dX3_goneFrom_26 : decode cX3_goneFrom 26 = .ok (.iand, 1) := by decide +kernel
theorem dX3_goneFrom_27 : decode cX3_goneFrom 27 = .ok (.putfield 198, 3) := by decide +kernel
theorem dX3_goneFrom_30 : decode cX3_goneFrom 30 = .ok (.aload 4, 2) := by decide +kernel
theorem dX3_goneFrom_32 : decode cX3_goneFrom 32 = .ok (.dup, 1) := by decide +kernel
theorem dX3_goneFrom_33 : decode cX3_goneFrom 33 = .ok (.getfield 201, 3) := by decide +kernel
theorem dX3_goneFrom_36 : decode cX3_goneFrom 36 = .ok (.iconst 1, 1) := by decide +kernel
theorem dX3_goneFrom_37 : decode cX3_goneFrom 37 = .ok (.iadd, 1) := by decide +kernel
theorem dX3_goneFrom_38 : decode cX3_goneFrom 38 = .ok (.putfield 201, 3) := by decide +kernel
theorem dX3_goneFrom_41 : decode cX3_goneFrom 41 = .ok (.aload 4, 2) := by decide +kernel
theorem dX3_goneFrom_43 : decode cX3_goneFrom 43 = .ok (.getfield 201, 3) := by decide +kernel
theorem dX3_goneFrom_46 : decode cX3_goneFrom 46 = .ok (.aload_n 3, 1) := by decide +kernel
theorem dX3_goneFrom_47 : decode cX3_goneFrom 47 = .ok (.getfield 204, 3) := by decide +kernel
theorem dX3_goneFrom_50 : decode cX3_goneFrom 50 = .ok (.if_icmp .lt 15, 3) := by decide +kernel
theorem dX3_goneFrom_53 : decode cX3_goneFrom 53 = .ok (.aload 4, 2) := by decide +kernel
theorem dX3_goneFrom_55 : decode cX3_goneFrom 55 = .ok (.iconst 0, 1) := by decide +kernel
theorem dX3_goneFrom_56 : decode cX3_goneFrom 56 = .ok (.putfield 201, 3) := by decide +kernel
theorem dX3_goneFrom_59 : decode cX3_goneFrom 59 = .ok (.aload_n 0, 1) := by decide +kernel
theorem dX3_goneFrom_60 : decode cX3_goneFrom 60 = .ok (.aload_n 3, 1) := by decide +kernel
theorem dX3_goneFrom_61 : decode cX3_goneFrom 61 = .ok (.iload_n 2, 1) := by decide +kernel
theorem dX3_goneFrom_62 : decode cX3_goneFrom 62 = .ok (.invokevirtual 140, 3) := by decide +kernel
theorem dX3_goneFrom_65 : decode cX3_goneFrom 65 = .ok (.return_, 1) := by decide +kernel
theorem dX3_sendUpdate_0 : decode cX3_sendUpdate 0 = .ok (.aload_n 1, 1) := by decide +kernel
theorem dX3_sendUpdate_1 : decode cX3_sendUpdate 1 = .ok (.getfield 207, 3) := by decide +kernel
theorem dX3_sendUpdate_4 : decode cX3_sendUpdate 4 = .ok (.ifCond .le 24, 3) := by decide +kernel
theorem dX3_sendUpdate_28 : decode cX3_sendUpdate 28 = .ok (.aload_n 1, 1) := by decide +kernel
theorem dX3_sendUpdate_29 : decode cX3_sendUpdate 29 = .ok (.getfield 125, 3) := by decide +kernel
theorem dX3_sendUpdate_32 : decode cX3_sendUpdate 32 = .ok (.aload_n 0, 1) := by decide +kernel
theorem dX3_sendUpdate_33 : decode cX3_sendUpdate 33 = .ok (.getfield 78, 3) := by decide +kernel
theorem dX3_sendUpdate_36 : decode cX3_sendUpdate 36 = .ok (.aload_n 1, 1) := by decide +kernel
theorem dX3_sendUpdate_37 : decode cX3_sendUpdate 37 = .ok (.getfield 183, 3) := by decide +kernel
theorem dX3_sendUpdate_40 : decode cX3_sendUpdate 40 = .ok (.iadd, 1) := by decide +kernel
theorem dX3_sendUpdate_41 : decode cX3_sendUpdate 41 = .ok (.iconst 5, 1) := by decide +kernel
theorem dX3_sendUpdate_42 : decode cX3_sendUpdate 42 = .ok (.irem, 1) := by decide +kernel
theorem dX3_sendUpdate_43 : decode cX3_sendUpdate 43 = .ok (.iconst 3, 1) := by decide +kernel
theorem dX3_sendUpdate_44 : decode cX3_sendUpdate 44 = .ok (.imul, 1) := by decide +kernel
theorem dX3_sendUpdate_45 : decode cX3_sendUpdate 45 = .ok (.iload_n 2, 1) := by decide +kernel
theorem dX3_sendUpdate_46 : decode cX3_sendUpdate 46 = .ok (.iadd, 1) := by decide +kernel
theorem dX3_sendUpdate_47 : decode cX3_sendUpdate 47 = .ok (.aload_n 1, 1) := by decide +kernel
theorem dX3_sendUpdate_48 : decode cX3_sendUpdate 48 = .ok (.getfield 128, 3) := by decide +kernel
theorem dX3_sendUpdate_51 : decode cX3_sendUpdate 51 = .ok (.iload_n 2, 1) := by decide +kernel
theorem dX3_sendUpdate_52 : decode cX3_sendUpdate 52 = .ok (.aaload, 1) := by decide +kernel
theorem dX3_sendUpdate_53 : decode cX3_sendUpdate 53 = .ok (.getfield 198, 3) := by decide +kernel
theorem dX3_sendUpdate_56 : decode cX3_sendUpdate 56 = .ok (.iastore, 1) := by decide +kernel
theorem dX3_sendUpdate_57 : decode cX3_sendUpdate 57 = .ok (.return_, 1) := by decide +kernel
set_option maxRecDepth 20000 in
theorem ggX3_waitAt_X3_lacksCredit : GoodIn wsX3_waitAt wsX3_lacksCredit := goodIn_r _ [10, 11, 2, 3, 12, 13, 14, 15, 16, 17, 18, 19, 28, 29, 30, 31, 32, 33, 34, 35, 36, 37, 38, 39, 40, 41, 42, 43, 44, 45, 46, 47, 48, 49, 50, 51, 52, 53, 54, 55] (by decide +kernel) (by decide +kernel)
set_option maxRecDepth 20000 in
theorem gX3_waitAt_X3_lacksCredit : GoodIn wsX3_waitAt (wsV RX3 213 RX3 yX3_lacksCredit wsX3_lacksCredit) := goodIn_app (goodIn_of _ (by decide +kernel)) ggX3_waitAt_X3_lacksCredit
theorem dX3_waitAt_0 : decode cX3_waitAt 0 = .ok (.iconst 0, 1) := by decide +kernel
theorem dX3_waitAt_1 : decode cX3_waitAt 1 = .ok (.istore_n 2, 1) := by decide +kernel
theorem dX3_waitAt_2 : decode cX3_waitAt 2 = .ok (.iload_n 2, 1) := by decide +kernel
theorem dX3_waitAt_3 : decode cX3_waitAt 3 = .ok (.aload_n 0, 1) := by decide +kernel
theorem dX3_waitAt_4 : decode cX3_waitAt 4 = .ok (.getfield 62, 3) := by decide +kernel
theorem dX3_waitAt_7 : decode cX3_waitAt 7 = .ok (.if_icmp .ge 73, 3) := by decide +kernel
theorem dX3_waitAt_10 : decode cX3_waitAt 10 = .ok (.aload_n 0, 1) := by decide +kernel
theorem dX3_waitAt_11 : decode cX3_waitAt 11 = .ok (.getfield 11, 3) := by decide +kernel
theorem dX3_waitAt_14 : decode cX3_waitAt 14 = .ok (.iload_n 1, 1) := by decide +kernel
theorem dX3_waitAt_15 : decode cX3_waitAt 15 = .ok (.aaload, 1) := by decide +kernel
theorem dX3_waitAt_16 : decode cX3_waitAt 16 = .ok (.getfield 128, 3) := by decide +kernel
theorem dX3_waitAt_19 : decode cX3_waitAt 19 = .ok (.iload_n 2, 1) := by decide +kernel
theorem dX3_waitAt_20 : decode cX3_waitAt 20 = .ok (.aaload, 1) := by decide +kernel
theorem dX3_waitAt_21 : decode cX3_waitAt 21 = .ok (.astore_n 3, 1) := by decide +kernel
theorem dX3_waitAt_22 : decode cX3_waitAt 22 = .ok (.aload_n 3, 1) := by decide +kernel
theorem dX3_waitAt_23 : decode cX3_waitAt 23 = .ok (.aload_n 0, 1) := by decide +kernel
theorem dX3_waitAt_24 : decode cX3_waitAt 24 = .ok (.iload_n 1, 1) := by decide +kernel
theorem dX3_waitAt_25 : decode cX3_waitAt 25 = .ok (.iload_n 2, 1) := by decide +kernel
theorem dX3_waitAt_26 : decode cX3_waitAt 26 = .ok (.invokevirtual 213, 3) := by decide +kernel
theorem dX3_waitAt_29 : decode cX3_waitAt 29 = .ok (.ifCond .eq 12, 3) := by decide +kernel
theorem dX3_waitAt_32 : decode cX3_waitAt 32 = .ok (.aload_n 3, 1) := by decide +kernel
theorem dX3_waitAt_33 : decode cX3_waitAt 33 = .ok (.getfield 210, 3) := by decide +kernel
theorem dX3_waitAt_36 : decode cX3_waitAt 36 = .ok (.iconst 1, 1) := by decide +kernel
theorem dX3_waitAt_37 : decode cX3_waitAt 37 = .ok (.iadd, 1) := by decide +kernel
theorem dX3_waitAt_38 : decode cX3_waitAt 38 = .ok (.goto 4, 3) := by decide +kernel
theorem dX3_waitAt_41 : decode cX3_waitAt 41 = .ok (.iconst 0, 1) := by decide +kernel
theorem dX3_waitAt_42 : decode cX3_waitAt 42 = .ok (.putfield 210, 3) := by decide +kernel
theorem dX3_waitAt_45 : decode cX3_waitAt 45 = .ok (.aload_n 0, 1) := by decide +kernel
theorem dX3_waitAt_46 : decode cX3_waitAt 46 = .ok (.getfield 50, 3) := by decide +kernel
theorem dX3_waitAt_49 : decode cX3_waitAt 49 = .ok (.ifCond .le 25, 3) := by decide +kernel
theorem dX3_waitAt_74 : decode cX3_waitAt 74 = .ok (.iinc 2 1, 3) := by decide +kernel
theorem dX3_waitAt_77 : decode cX3_waitAt 77 = .ok (.goto (-75), 3) := by decide +kernel
theorem dX3_waitAt_80 : decode cX3_waitAt 80 = .ok (.return_, 1) := by decide +kernel
set_option maxRecDepth 20000 in
theorem ggX3_lacksCredit_X1_out : GoodIn wsX3_lacksCredit wsX1_out := goodIn_r _ [9, 10, 11, 33, 34, 35, 36, 37, 38, 39] (by decide +kernel) (by decide +kernel)
set_option maxRecDepth 20000 in
theorem gX3_lacksCredit_X1_out : GoodIn wsX3_lacksCredit (wsV RX3 192 RX1 yX1_out wsX1_out) := goodIn_app (goodIn_of _ (by decide +kernel)) ggX3_lacksCredit_X1_out
theorem dX3_lacksCredit_0 : decode cX3_lacksCredit 0 = .ok (.aload_n 0, 1) := by decide +kernel
theorem dX3_lacksCredit_1 : decode cX3_lacksCredit 1 = .ok (.getfield 23, 3) := by decide +kernel
theorem dX3_lacksCredit_4 : decode cX3_lacksCredit 4 = .ok (.iload_n 1, 1) := by decide +kernel
theorem dX3_lacksCredit_5 : decode cX3_lacksCredit 5 = .ok (.iconst 3, 1) := by decide +kernel
theorem dX3_lacksCredit_6 : decode cX3_lacksCredit 6 = .ok (.imul, 1) := by decide +kernel
theorem dX3_lacksCredit_7 : decode cX3_lacksCredit 7 = .ok (.iload_n 2, 1) := by decide +kernel
theorem dX3_lacksCredit_8 : decode cX3_lacksCredit 8 = .ok (.iadd, 1) := by decide +kernel
theorem dX3_lacksCredit_9 : decode cX3_lacksCredit 9 = .ok (.iaload, 1) := by decide +kernel
theorem dX3_lacksCredit_10 : decode cX3_lacksCredit 10 = .ok (.ifCond .le 38, 3) := by decide +kernel
theorem dX3_lacksCredit_13 : decode cX3_lacksCredit 13 = .ok (.aload_n 0, 1) := by decide +kernel
theorem dX3_lacksCredit_14 : decode cX3_lacksCredit 14 = .ok (.getfield 11, 3) := by decide +kernel
theorem dX3_lacksCredit_17 : decode cX3_lacksCredit 17 = .ok (.iload_n 1, 1) := by decide +kernel
theorem dX3_lacksCredit_18 : decode cX3_lacksCredit 18 = .ok (.aaload, 1) := by decide +kernel
theorem dX3_lacksCredit_19 : decode cX3_lacksCredit 19 = .ok (.getfield 128, 3) := by decide +kernel
theorem dX3_lacksCredit_22 : decode cX3_lacksCredit 22 = .ok (.iload_n 2, 1) := by decide +kernel
theorem dX3_lacksCredit_23 : decode cX3_lacksCredit 23 = .ok (.aaload, 1) := by decide +kernel
theorem dX3_lacksCredit_24 : decode cX3_lacksCredit 24 = .ok (.invokevirtual 192, 3) := by decide +kernel
theorem dX3_lacksCredit_27 : decode cX3_lacksCredit 27 = .ok (.aload_n 0, 1) := by decide +kernel
theorem dX3_lacksCredit_28 : decode cX3_lacksCredit 28 = .ok (.getfield 11, 3) := by decide +kernel
theorem dX3_lacksCredit_31 : decode cX3_lacksCredit 31 = .ok (.iload_n 1, 1) := by decide +kernel
theorem dX3_lacksCredit_32 : decode cX3_lacksCredit 32 = .ok (.aaload, 1) := by decide +kernel
theorem dX3_lacksCredit_33 : decode cX3_lacksCredit 33 = .ok (.getfield 128, 3) := by decide +kernel
theorem dX3_lacksCredit_36 : decode cX3_lacksCredit 36 = .ok (.iload_n 2, 1) := by decide +kernel
theorem dX3_lacksCredit_37 : decode cX3_lacksCredit 37 = .ok (.aaload, 1) := by decide +kernel
theorem dX3_lacksCredit_38 : decode cX3_lacksCredit 38 = .ok (.getfield 195, 3) := by decide +kernel
theorem dX3_lacksCredit_41 : decode cX3_lacksCredit 41 = .ok (.if_icmp .lt 7, 3) := by decide +kernel
theorem dX3_lacksCredit_44 : decode cX3_lacksCredit 44 = .ok (.iconst 1, 1) := by decide +kernel
theorem dX3_lacksCredit_45 : decode cX3_lacksCredit 45 = .ok (.goto 4, 3) := by decide +kernel
theorem dX3_lacksCredit_48 : decode cX3_lacksCredit 48 = .ok (.iconst 0, 1) := by decide +kernel
theorem dX3_lacksCredit_49 : decode cX3_lacksCredit 49 = .ok (.ireturn, 1) := by decide +kernel
theorem dX4_init_0 : decode cX4_init 0 = .ok (.aload_n 0, 1) := by decide +kernel
theorem dX4_init_1 : decode cX4_init 1 = .ok (.invokespecial 3, 3) := by decide +kernel
theorem dX4_init_4 : decode cX4_init 4 = .ok (.aload_n 0, 1) := by decide +kernel
theorem dX4_init_5 : decode cX4_init 5 = .ok (.iconst 0, 1) := by decide +kernel
theorem dX4_init_6 : decode cX4_init 6 = .ok (.newarray .int, 2) := by decide +kernel
theorem dX4_init_8 : decode cX4_init 8 = .ok (.putfield 9, 3) := by decide +kernel
theorem dX4_init_11 : decode cX4_init 11 = .ok (.aload_n 0, 1) := by decide +kernel
theorem dX4_init_12 : decode cX4_init 12 = .ok (.bipush 21, 2) := by decide +kernel
theorem dX4_init_14 : decode cX4_init 14 = .ok (.newarray .int, 2) := by decide +kernel
theorem dX4_init_16 : decode cX4_init 16 = .ok (.putfield 15, 3) := by decide +kernel
theorem dX4_init_19 : decode cX4_init 19 = .ok (.return_, 1) := by decide +kernel
set_option maxRecDepth 20000 in
theorem ggX4_faultOf_X4_setUsual : GoodIn wsX4_faultOf wsX4_setUsual := goodIn_r _ [15, 16, 17, 18, 19, 14, 20, 94, 95, 96, 97, 98, 99, 100] (by decide +kernel) (by decide +kernel)
set_option maxRecDepth 20000 in
theorem gX4_faultOf_X4_setUsual : GoodIn wsX4_faultOf (wsV RX4 40 RX4 yX4_setUsual wsX4_setUsual) := goodIn_app (goodIn_of _ (by decide +kernel)) ggX4_faultOf_X4_setUsual
set_option maxRecDepth 20000 in
theorem ggX4_faultOf_X4_readClause : GoodIn wsX4_faultOf wsX4_readClause := goodIn_r _ [24, 7, 6, 1, 8, 25, 26, 27, 14, 28, 29, 30, 31, 32, 33, 34, 35, 36, 9, 10, 18, 19, 20, 37, 38, 39, 40, 41, 42, 43, 44, 45, 46, 47, 48, 49, 50, 51, 52, 53, 54, 55, 56, 57, 58, 59, 60, 61, 62, 63, 64, 65, 66, 67, 68, 69, 70, 71, 72, 73, 74, 75, 76, 77, 78, 79, 80, 81, 82, 83, 84, 85, 86, 16, 87, 88, 89, 90, 91, 92, 93, 94, 95, 96, 97, 98, 99, 100] (by decide +kernel) (by decide +kernel)
set_option maxRecDepth 20000 in
theorem gX4_faultOf_X4_readClause : GoodIn wsX4_faultOf (wsV RX4 43 RX4 yX4_readClause wsX4_readClause) := goodIn_app (goodIn_of _ (by decide +kernel)) ggX4_faultOf_X4_readClause
theorem dX4_faultOf_0 : decode cX4_faultOf 0 = .ok (.aload_n 0, 1) := by decide +kernel
theorem dX4_faultOf_1 : decode cX4_faultOf 1 = .ok (.aload_n 1, 1) := by decide +kernel
theorem dX4_faultOf_2 : decode cX4_faultOf 2 = .ok (.putfield 9, 3) := by decide +kernel
theorem dX4_faultOf_5 : decode cX4_faultOf 5 = .ok (.aload_n 0, 1) := by decide +kernel
theorem dX4_faultOf_6 : decode cX4_faultOf 6 = .ok (.iload_n 2, 1) := by decide +kernel
theorem dX4_faultOf_7 : decode cX4_faultOf 7 = .ok (.aload_n 1, 1) := by decide +kernel
theorem dX4_faultOf_8 : decode cX4_faultOf 8 = .ok (.arraylength, 1) := by decide +kernel
theorem dX4_faultOf_9 : decode cX4_faultOf 9 = .ok (.invokestatic 18, 3) := by decide +kernel
theorem dX4_faultOf_12 : decode cX4_faultOf 12 = .ok (.putfield 24, 3) := by decide +kernel
theorem dX4_faultOf_15 : decode cX4_faultOf 15 = .ok (.aload_n 0, 1) := by decide +kernel
theorem dX4_faultOf_16 : decode cX4_faultOf 16 = .ok (.iconst 0, 1) := by decide +kernel
theorem dX4_faultOf_17 : decode cX4_faultOf 17 = .ok (.putfield 28, 3) := by decide +kernel
theorem dX4_faultOf_20 : decode cX4_faultOf 20 = .ok (.aload_n 0, 1) := by decide +kernel
theorem dX4_faultOf_21 : decode cX4_faultOf 21 = .ok (.iconst (-1), 1) := by decide +kernel
theorem dX4_faultOf_22 : decode cX4_faultOf 22 = .ok (.putfield 31, 3) := by decide +kernel
theorem dX4_faultOf_25 : decode cX4_faultOf 25 = .ok (.aload_n 0, 1) := by decide +kernel
theorem dX4_faultOf_26 : decode cX4_faultOf 26 = .ok (.iconst 0, 1) := by decide +kernel
theorem dX4_faultOf_27 : decode cX4_faultOf 27 = .ok (.putfield 34, 3) := by decide +kernel
theorem dX4_faultOf_30 : decode cX4_faultOf 30 = .ok (.aload_n 0, 1) := by decide +kernel
theorem dX4_faultOf_31 : decode cX4_faultOf 31 = .ok (.iconst 0, 1) := by decide +kernel
theorem dX4_faultOf_32 : decode cX4_faultOf 32 = .ok (.putfield 37, 3) := by decide +kernel
theorem dX4_faultOf_35 : decode cX4_faultOf 35 = .ok (.aload_n 0, 1) := by decide +kernel
theorem dX4_faultOf_36 : decode cX4_faultOf 36 = .ok (.invokevirtual 40, 3) := by decide +kernel
theorem dX4_faultOf_39 : decode cX4_faultOf 39 = .ok (.iconst 1, 1) := by decide +kernel
theorem dX4_faultOf_40 : decode cX4_faultOf 40 = .ok (.istore_n 3, 1) := by decide +kernel
theorem dX4_faultOf_41 : decode cX4_faultOf 41 = .ok (.iconst 0, 1) := by decide +kernel
theorem dX4_faultOf_42 : decode cX4_faultOf 42 = .ok (.istore 4, 2) := by decide +kernel
theorem dX4_faultOf_44 : decode cX4_faultOf 44 = .ok (.iload_n 3, 1) := by decide +kernel
theorem dX4_faultOf_45 : decode cX4_faultOf 45 = .ok (.ifCond .eq 67, 3) := by decide +kernel
theorem dX4_faultOf_48 : decode cX4_faultOf 48 = .ok (.iload 4, 2) := by decide +kernel
theorem dX4_faultOf_50 : decode cX4_faultOf 50 = .ok (.aload_n 0, 1) := by decide +kernel
theorem dX4_faultOf_51 : decode cX4_faultOf 51 = .ok (.getfield 24, 3) := by decide +kernel
theorem dX4_faultOf_54 : decode cX4_faultOf 54 = .ok (.if_icmp .gt 58, 3) := by decide +kernel
theorem dX4_faultOf_57 : decode cX4_faultOf 57 = .ok (.aload_n 0, 1) := by decide +kernel
theorem dX4_faultOf_58 : decode cX4_faultOf 58 = .ok (.iload 4, 2) := by decide +kernel
theorem dX4_faultOf_60 : decode cX4_faultOf 60 = .ok (.ifCond .ne 7, 3) := by decide +kernel
theorem dX4_faultOf_63 : decode cX4_faultOf 63 = .ok (.iconst 1, 1) := by decide +kernel
theorem dX4_faultOf_64 : decode cX4_faultOf 64 = .ok (.goto 4, 3) := by decide +kernel
theorem dX4_faultOf_68 : decode cX4_faultOf 68 = .ok (.invokevirtual 43, 3) := by decide +kernel
theorem dX4_faultOf_71 : decode cX4_faultOf 71 = .ok (.aload_n 0, 1) := by decide +kernel
theorem dX4_faultOf_72 : decode cX4_faultOf 72 = .ok (.getfield 31, 3) := by decide +kernel
theorem dX4_faultOf_75 : decode cX4_faultOf 75 = .ok (.iconst (-1), 1) := by decide +kernel
theorem dX4_faultOf_76 : decode cX4_faultOf 76 = .ok (.if_icmp .ne 18, 3) := by decide +kernel
theorem dX4_faultOf_94 : decode cX4_faultOf 94 = .ok (.iconst 0, 1) := by decide +kernel
theorem dX4_faultOf_95 : decode cX4_faultOf 95 = .ok (.istore_n 3, 1) := by decide +kernel
theorem dX4_faultOf_96 : decode cX4_faultOf 96 = .ok (.aload_n 0, 1) := by decide +kernel
theorem dX4_faultOf_97 : decode cX4_faultOf 97 = .ok (.dup, 1) := by decide +kernel
theorem dX4_faultOf_98 : decode cX4_faultOf 98 = .ok (.getfield 28, 3) := by decide +kernel
theorem dX4_faultOf_101 : decode cX4_faultOf 101 = .ok (.iconst 1, 1) := by decide +kernel
theorem dX4_faultOf_102 : decode cX4_faultOf 102 = .ok (.iadd, 1) := by decide +kernel
theorem dX4_faultOf_103 : decode cX4_faultOf 103 = .ok (.putfield 28, 3) := by decide +kernel
theorem dX4_faultOf_106 : decode cX4_faultOf 106 = .ok (.iinc 4 1, 3) := by decide +kernel
theorem dX4_faultOf_109 : decode cX4_faultOf 109 = .ok (.goto (-65), 3) := by decide +kernel
theorem dX4_faultOf_112 : decode cX4_faultOf 112 = .ok (.aload_n 0, 1) := by decide +kernel
theorem dX4_faultOf_113 : decode cX4_faultOf 113 = .ok (.getfield 31, 3) := by decide +kernel
theorem dX4_faultOf_116 : decode cX4_faultOf 116 = .ok (.ireturn, 1) := by decide +kernel
set_option maxRecDepth 20000 in
theorem ggX4_setUsual_X4_kindOf : GoodIn wsX4_setUsual wsX4_kindOf := goodIn_r _ [6] (by decide +kernel) (by decide +kernel)
set_option maxRecDepth 20000 in
theorem gX4_setUsual_X4_kindOf : GoodIn wsX4_setUsual (va_wsS RX4 50 yX4_kindOf wsX4_kindOf) := goodIn_app (goodIn_of _ (by decide +kernel)) ggX4_setUsual_X4_kindOf
theorem dX4_setUsual_0 : decode cX4_setUsual 0 = .ok (.iconst 0, 1) := by decide +kernel
theorem dX4_setUsual_1 : decode cX4_setUsual 1 = .ok (.istore_n 1, 1) := by decide +kernel
theorem dX4_setUsual_2 : decode cX4_setUsual 2 = .ok (.iload_n 1, 1) := by decide +kernel
theorem dX4_setUsual_3 : decode cX4_setUsual 3 = .ok (.bipush 7, 2) := by decide +kernel
theorem dX4_setUsual_5 : decode cX4_setUsual 5 = .ok (.if_icmp .ge 44, 3) := by decide +kernel
theorem dX4_setUsual_8 : decode cX4_setUsual 8 = .ok (.iconst 0, 1) := by decide +kernel
theorem dX4_setUsual_9 : decode cX4_setUsual 9 = .ok (.istore_n 2, 1) := by decide +kernel
theorem dX4_setUsual_10 : decode cX4_setUsual 10 = .ok (.iload_n 2, 1) := by decide +kernel
theorem dX4_setUsual_11 : decode cX4_setUsual 11 = .ok (.iconst 3, 1) := by decide +kernel
theorem dX4_setUsual_12 : decode cX4_setUsual 12 = .ok (.if_icmp .ge 31, 3) := by decide +kernel
theorem dX4_setUsual_15 : decode cX4_setUsual 15 = .ok (.aload_n 0, 1) := by decide +kernel
theorem dX4_setUsual_16 : decode cX4_setUsual 16 = .ok (.getfield 15, 3) := by decide +kernel
theorem dX4_setUsual_19 : decode cX4_setUsual 19 = .ok (.iload_n 1, 1) := by decide +kernel
theorem dX4_setUsual_20 : decode cX4_setUsual 20 = .ok (.iconst 3, 1) := by decide +kernel
theorem dX4_setUsual_21 : decode cX4_setUsual 21 = .ok (.imul, 1) := by decide +kernel
theorem dX4_setUsual_22 : decode cX4_setUsual 22 = .ok (.iload_n 2, 1) := by decide +kernel
theorem dX4_setUsual_23 : decode cX4_setUsual 23 = .ok (.iadd, 1) := by decide +kernel
theorem dX4_setUsual_24 : decode cX4_setUsual 24 = .ok (.getstatic 47, 3) := by decide +kernel
theorem dX4_setUsual_27 : decode cX4_setUsual 27 = .ok (.iload_n 1, 1) := by decide +kernel
theorem dX4_setUsual_28 : decode cX4_setUsual 28 = .ok (.invokestatic 50, 3) := by decide +kernel
theorem dX4_setUsual_31 : decode cX4_setUsual 31 = .ok (.iconst 3, 1) := by decide +kernel
theorem dX4_setUsual_32 : decode cX4_setUsual 32 = .ok (.imul, 1) := by decide +kernel
theorem dX4_setUsual_33 : decode cX4_setUsual 33 = .ok (.iload_n 2, 1) := by decide +kernel
theorem dX4_setUsual_34 : decode cX4_setUsual 34 = .ok (.iadd, 1) := by decide +kernel
theorem dX4_setUsual_35 : decode cX4_setUsual 35 = .ok (.iaload, 1) := by decide +kernel
theorem dX4_setUsual_36 : decode cX4_setUsual 36 = .ok (.iastore, 1) := by decide +kernel
theorem dX4_setUsual_37 : decode cX4_setUsual 37 = .ok (.iinc 2 1, 3) := by decide +kernel
theorem dX4_setUsual_40 : decode cX4_setUsual 40 = .ok (.goto (-30), 3) := by decide +kernel
theorem dX4_setUsual_43 : decode cX4_setUsual 43 = .ok (.iinc 1 1, 3) := by decide +kernel
theorem dX4_setUsual_46 : decode cX4_setUsual 46 = .ok (.goto (-44), 3) := by decide +kernel
theorem dX4_setUsual_49 : decode cX4_setUsual 49 = .ok (.return_, 1) := by decide +kernel
theorem dX4_kindOf_0 : decode cX4_kindOf 0 = .ok (.iload_n 0, 1) := by decide +kernel
theorem dX4_kindOf_1 : decode cX4_kindOf 1 = .ok (.ifCond .ne 5, 3) := by decide +kernel
theorem dX4_kindOf_4 : decode cX4_kindOf 4 = .ok (.iconst 0, 1) := by decide +kernel
theorem dX4_kindOf_5 : decode cX4_kindOf 5 = .ok (.ireturn, 1) := by decide +kernel
theorem dX4_kindOf_6 : decode cX4_kindOf 6 = .ok (.iload_n 0, 1) := by decide +kernel
theorem dX4_kindOf_7 : decode cX4_kindOf 7 = .ok (.iconst 3, 1) := by decide +kernel
theorem dX4_kindOf_8 : decode cX4_kindOf 8 = .ok (.if_icmp .gt 7, 3) := by decide +kernel
theorem dX4_kindOf_11 : decode cX4_kindOf 11 = .ok (.iconst 1, 1) := by decide +kernel
theorem dX4_kindOf_12 : decode cX4_kindOf 12 = .ok (.goto 4, 3) := by decide +kernel
theorem dX4_kindOf_15 : decode cX4_kindOf 15 = .ok (.iconst 2, 1) := by decide +kernel
theorem dX4_kindOf_16 : decode cX4_kindOf 16 = .ok (.ireturn, 1) := by decide +kernel
set_option maxRecDepth 20000 in
theorem ggX4_readClause_X4_readHead : GoodIn wsX4_readClause wsX4_readHead := goodIn_r _ [9, 1, 2, 3, 4, 10, 11, 12, 8, 13, 14, 15, 16, 17, 18, 19, 81, 82, 83, 84, 85, 86, 87] (by decide +kernel) (by decide +kernel)
set_option maxRecDepth 20000 in
theorem gX4_readClause_X4_readHead : GoodIn wsX4_readClause (wsV RX4 54 RX4 yX4_readHead wsX4_readHead) := goodIn_app (goodIn_of _ (by decide +kernel)) ggX4_readClause_X4_readHead
theorem dX4_readClause_0 : decode cX4_readClause 0 = .ok (.aload_n 0, 1) := by decide +kernel
theorem dX4_readClause_1 : decode cX4_readClause 1 = .ok (.iload_n 1, 1) := by decide +kernel
theorem dX4_readClause_2 : decode cX4_readClause 2 = .ok (.invokevirtual 54, 3) := by decide +kernel
theorem dX4_readClause_5 : decode cX4_readClause 5 = .ok (.istore_n 2, 1) := by decide +kernel
theorem dX4_readClause_6 : decode cX4_readClause 6 = .ok (.iload_n 2, 1) := by decide +kernel
theorem dX4_readClause_7 : decode cX4_readClause 7 = .ok (.iconst (-1), 1) := by decide +kernel
theorem dX4_readClause_8 : decode cX4_readClause 8 = .ok (.if_icmp .ne 4, 3) := by decide +kernel
theorem dX4_readClause_11 : decode cX4_readClause 11 = .ok (.return_, 1) := by decide +kernel
set_option maxRecDepth 20000 in
theorem ggX4_readHead_X4_passBlanks : GoodIn wsX4_readHead wsX4_passBlanks := goodIn_r _ [9, 1, 2, 3, 16, 17, 18, 19, 20, 21, 22] (by decide +kernel) (by decide +kernel)
set_option maxRecDepth 20000 in
theorem gX4_readHead_X4_passBlanks : GoodIn wsX4_readHead (wsV RX4 58 RX4 yX4_passBlanks wsX4_passBlanks) := goodIn_app (goodIn_of _ (by decide +kernel)) ggX4_readHead_X4_passBlanks
theorem dX4_readHead_0 : decode cX4_readHead 0 = .ok (.aload_n 0, 1) := by decide +kernel
theorem dX4_readHead_1 : decode cX4_readHead 1 = .ok (.invokevirtual 58, 3) := by decide +kernel
theorem dX4_readHead_4 : decode cX4_readHead 4 = .ok (.iconst (-1), 1) := by decide +kernel
theorem dX4_readHead_5 : decode cX4_readHead 5 = .ok (.istore_n 2, 1) := by decide +kernel
theorem dX4_readHead_6 : decode cX4_readHead 6 = .ok (.aload_n 0, 1) := by decide +kernel
theorem dX4_readHead_7 : decode cX4_readHead 7 = .ok (.getfield 28, 3) := by decide +kernel
theorem dX4_readHead_10 : decode cX4_readHead 10 = .ok (.aload_n 0, 1) := by decide +kernel
theorem dX4_readHead_11 : decode cX4_readHead 11 = .ok (.getfield 24, 3) := by decide +kernel
theorem dX4_readHead_14 : decode cX4_readHead 14 = .ok (.if_icmp .ge 18, 3) := by decide +kernel
theorem dX4_readHead_32 : decode cX4_readHead 32 = .ok (.iload_n 2, 1) := by decide +kernel
theorem dX4_readHead_33 : decode cX4_readHead 33 = .ok (.iconst (-1), 1) := by decide +kernel
theorem dX4_readHead_34 : decode cX4_readHead 34 = .ok (.if_icmp .ne 13, 3) := by decide +kernel
theorem dX4_readHead_37 : decode cX4_readHead 37 = .ok (.aload_n 0, 1) := by decide +kernel
theorem dX4_readHead_38 : decode cX4_readHead 38 = .ok (.aload_n 0, 1) := by decide +kernel
theorem dX4_readHead_39 : decode cX4_readHead 39 = .ok (.getfield 28, 3) := by decide +kernel
theorem dX4_readHead_42 : decode cX4_readHead 42 = .ok (.putfield 31, 3) := by decide +kernel
theorem dX4_readHead_45 : decode cX4_readHead 45 = .ok (.iconst (-1), 1) := by decide +kernel
theorem dX4_readHead_46 : decode cX4_readHead 46 = .ok (.ireturn, 1) := by decide +kernel
theorem dX4_passBlanks_0 : decode cX4_passBlanks 0 = .ok (.aload_n 0, 1) := by decide +kernel
theorem dX4_passBlanks_1 : decode cX4_passBlanks 1 = .ok (.getfield 28, 3) := by decide +kernel
theorem dX4_passBlanks_4 : decode cX4_passBlanks 4 = .ok (.aload_n 0, 1) := by decide +kernel
theorem dX4_passBlanks_5 : decode cX4_passBlanks 5 = .ok (.getfield 24, 3) := by decide +kernel
theorem dX4_passBlanks_8 : decode cX4_passBlanks 8 = .ok (.if_icmp .ge 30, 3) := by decide +kernel
theorem dX4_passBlanks_38 : decode cX4_passBlanks 38 = .ok (.return_, 1) := by decide +kernel
theorem dX5_init_0 : decode cX5_init 0 = .ok (.aload_n 0, 1) := by decide +kernel
theorem dX5_init_1 : decode cX5_init 1 = .ok (.invokespecial 1, 3) := by decide +kernel
theorem dX5_init_4 : decode cX5_init 4 = .ok (.aload_n 0, 1) := by decide +kernel
theorem dX5_init_5 : decode cX5_init 5 = .ok (.sipush 256, 3) := by decide +kernel
theorem dX5_init_8 : decode cX5_init 8 = .ok (.newarray .int, 2) := by decide +kernel
theorem dX5_init_10 : decode cX5_init 10 = .ok (.putfield 9, 3) := by decide +kernel
theorem dX5_init_13 : decode cX5_init 13 = .ok (.return_, 1) := by decide +kernel
set_option maxRecDepth 20000 in
theorem ggX6_init_X4_init : GoodIn wsX6_init wsX4_init := goodIn_r _ [22, 23, 2, 3, 4, 24, 25, 69, 70, 71, 72, 73, 74, 75] (by decide +kernel) (by decide +kernel)
set_option maxRecDepth 20000 in
theorem ggX6_init_X3_init : GoodIn wsX6_init wsX3_init := goodIn_r _ [28, 29, 2, 3, 30, 31, 32, 33, 4, 34, 35, 36, 37, 38, 39, 40, 41, 42, 43, 44, 45, 46, 47, 48, 49, 50, 51, 52, 53, 54, 55, 76, 77, 78, 79, 80, 81, 82, 83, 84, 85, 86, 93, 94, 95, 96, 97, 98, 99, 100, 101, 102, 103, 104, 105, 106, 107, 108, 109, 110, 111, 112, 113, 114, 115, 116, 117] (by decide +kernel) (by decide +kernel)
set_option maxRecDepth 20000 in
theorem ggX6_init_X5_init : GoodIn wsX6_init wsX5_init := goodIn_r _ [57, 58, 2, 3, 4, 59, 87, 88, 89, 90, 91, 92] (by decide +kernel) (by decide +kernel)
theorem dX6_init_0 : decode cX6_init 0 = .ok (.aload_n 0, 1) := by decide +kernel
theorem dX6_init_1 : decode cX6_init 1 = .ok (.invokespecial 1, 3) := by decide +kernel
theorem dX6_init_4 : decode cX6_init 4 = .ok (.aload_n 0, 1) := by decide +kernel
theorem dX6_init_5 : decode cX6_init 5 = .ok (.sipush 160, 3) := by decide +kernel
theorem dX6_init_8 : decode cX6_init 8 = .ok (.newarray .int, 2) := by decide +kernel
theorem dX6_init_10 : decode cX6_init 10 = .ok (.putfield 9, 3) := by decide +kernel
theorem dX6_init_13 : decode cX6_init 13 = .ok (.aload_n 0, 1) := by decide +kernel
theorem dX6_init_14 : decode cX6_init 14 = .ok (.iconst 4, 1) := by decide +kernel
theorem dX6_init_15 : decode cX6_init 15 = .ok (.newarray .int, 2) := by decide +kernel
theorem dX6_init_17 : decode cX6_init 17 = .ok (.putfield 13, 3) := by decide +kernel
theorem dX6_init_20 : decode cX6_init 20 = .ok (.aload_n 0, 1) := by decide +kernel
theorem dX6_init_21 : decode cX6_init 21 = .ok (.new 16, 3) := by decide +kernel
theorem dX6_init_24 : decode cX6_init 24 = .ok (.dup, 1) := by decide +kernel
theorem dX6_init_25 : decode cX6_init 25 = .ok (.invokespecial 18, 3) := by decide +kernel
theorem dX6_init_28 : decode cX6_init 28 = .ok (.putfield 19, 3) := by decide +kernel
theorem dX6_init_31 : decode cX6_init 31 = .ok (.aload_n 0, 1) := by decide +kernel
theorem dX6_init_32 : decode cX6_init 32 = .ok (.new 23, 3) := by decide +kernel
theorem dX6_init_35 : decode cX6_init 35 = .ok (.dup, 1) := by decide +kernel
theorem dX6_init_36 : decode cX6_init 36 = .ok (.invokespecial 25, 3) := by decide +kernel
theorem dX6_init_39 : decode cX6_init 39 = .ok (.putfield 26, 3) := by decide +kernel
theorem dX6_init_42 : decode cX6_init 42 = .ok (.aload_n 0, 1) := by decide +kernel
theorem dX6_init_43 : decode cX6_init 43 = .ok (.new 23, 3) := by decide +kernel
theorem dX6_init_46 : decode cX6_init 46 = .ok (.dup, 1) := by decide +kernel
theorem dX6_init_47 : decode cX6_init 47 = .ok (.invokespecial 25, 3) := by decide +kernel
theorem dX6_init_50 : decode cX6_init 50 = .ok (.putfield 30, 3) := by decide +kernel
theorem dX6_init_53 : decode cX6_init 53 = .ok (.aload_n 0, 1) := by decide +kernel
theorem dX6_init_54 : decode cX6_init 54 = .ok (.iconst 3, 1) := by decide +kernel
theorem dX6_init_55 : decode cX6_init 55 = .ok (.anewarray 33, 3) := by decide +kernel
theorem dX6_init_58 : decode cX6_init 58 = .ok (.putfield 35, 3) := by decide +kernel
theorem dX6_init_61 : decode cX6_init 61 = .ok (.aload_n 0, 1) := by decide +kernel
theorem dX6_init_62 : decode cX6_init 62 = .ok (.iconst 3, 1) := by decide +kernel
theorem dX6_init_63 : decode cX6_init 63 = .ok (.newarray .int, 2) := by decide +kernel
theorem dX6_init_65 : decode cX6_init 65 = .ok (.putfield 39, 3) := by decide +kernel
theorem dX6_init_68 : decode cX6_init 68 = .ok (.iconst 0, 1) := by decide +kernel
theorem dX6_init_69 : decode cX6_init 69 = .ok (.istore_n 1, 1) := by decide +kernel
theorem dX6_init_70 : decode cX6_init 70 = .ok (.iload_n 1, 1) := by decide +kernel
theorem dX6_init_71 : decode cX6_init 71 = .ok (.iconst 3, 1) := by decide +kernel
theorem dX6_init_72 : decode cX6_init 72 = .ok (.if_icmp .ge 22, 3) := by decide +kernel
theorem dX6_init_75 : decode cX6_init 75 = .ok (.aload_n 0, 1) := by decide +kernel
theorem dX6_init_76 : decode cX6_init 76 = .ok (.getfield 35, 3) := by decide +kernel
theorem dX6_init_79 : decode cX6_init 79 = .ok (.iload_n 1, 1) := by decide +kernel
theorem dX6_init_80 : decode cX6_init 80 = .ok (.new 33, 3) := by decide +kernel
theorem dX6_init_83 : decode cX6_init 83 = .ok (.dup, 1) := by decide +kernel
theorem dX6_init_84 : decode cX6_init 84 = .ok (.invokespecial 42, 3) := by decide +kernel
theorem dX6_init_87 : decode cX6_init 87 = .ok (.aastore, 1) := by decide +kernel
theorem dX6_init_88 : decode cX6_init 88 = .ok (.iinc 1 1, 3) := by decide +kernel
theorem dX6_init_91 : decode cX6_init 91 = .ok (.goto (-21), 3) := by decide +kernel
theorem dX6_init_94 : decode cX6_init 94 = .ok (.return_, 1) := by decide +kernel
set_option maxRecDepth 20000 in
theorem ggX6_feed_X6_signsIn : GoodIn wsX6_feed wsX6_signsIn := goodIn_r _ [5] (by decide +kernel) (by decide +kernel)
set_option maxRecDepth 20000 in
theorem gX6_feed_X6_signsIn : GoodIn wsX6_feed (va_wsS RX6 43 yX6_signsIn wsX6_signsIn) := goodIn_app (goodIn_of _ (by decide +kernel)) ggX6_feed_X6_signsIn
set_option maxRecDepth 20000 in
theorem ggX6_feed_X6_append : GoodIn wsX6_feed wsX6_append := goodIn_r _ [9, 1, 10, 11, 12, 13, 14, 15, 16, 17, 18, 19] (by decide +kernel) (by decide +kernel)
set_option maxRecDepth 20000 in
theorem gX6_feed_X6_append : GoodIn wsX6_feed (wsV RX6 51 RX6 yX6_append wsX6_append) := goodIn_app (goodIn_of _ (by decide +kernel)) ggX6_feed_X6_append
theorem dX6_feed_0 : decode cX6_feed 0 = .ok (.iload_n 1, 1) := by decide +kernel
theorem dX6_feed_1 : decode cX6_feed 1 = .ok (.invokestatic 43, 3) := by decide +kernel
theorem dX6_feed_4 : decode cX6_feed 4 = .ok (.iload_n 2, 1) := by decide +kernel
theorem dX6_feed_5 : decode cX6_feed 5 = .ok (.invokestatic 43, 3) := by decide +kernel
theorem dX6_feed_8 : decode cX6_feed 8 = .ok (.iadd, 1) := by decide +kernel
theorem dX6_feed_9 : decode cX6_feed 9 = .ok (.iload_n 3, 1) := by decide +kernel
theorem dX6_feed_10 : decode cX6_feed 10 = .ok (.invokestatic 43, 3) := by decide +kernel
theorem dX6_feed_13 : decode cX6_feed 13 = .ok (.iadd, 1) := by decide +kernel
theorem dX6_feed_14 : decode cX6_feed 14 = .ok (.iload 4, 2) := by decide +kernel
theorem dX6_feed_16 : decode cX6_feed 16 = .ok (.invokestatic 43, 3) := by decide +kernel
theorem dX6_feed_19 : decode cX6_feed 19 = .ok (.iadd, 1) := by decide +kernel
theorem dX6_feed_20 : decode cX6_feed 20 = .ok (.iload 5, 2) := by decide +kernel
theorem dX6_feed_22 : decode cX6_feed 22 = .ok (.invokestatic 43, 3) := by decide +kernel
theorem dX6_feed_25 : decode cX6_feed 25 = .ok (.iadd, 1) := by decide +kernel
theorem dX6_feed_26 : decode cX6_feed 26 = .ok (.istore 6, 2) := by decide +kernel
theorem dX6_feed_28 : decode cX6_feed 28 = .ok (.aload_n 0, 1) := by decide +kernel
theorem dX6_feed_29 : decode cX6_feed 29 = .ok (.getfield 47, 3) := by decide +kernel
theorem dX6_feed_32 : decode cX6_feed 32 = .ok (.iload 6, 2) := by decide +kernel
theorem dX6_feed_34 : decode cX6_feed 34 = .ok (.iadd, 1) := by decide +kernel
theorem dX6_feed_35 : decode cX6_feed 35 = .ok (.sipush 160, 3) := by decide +kernel
theorem dX6_feed_38 : decode cX6_feed 38 = .ok (.if_icmp .le 5, 3) := by decide +kernel
theorem dX6_feed_43 : decode cX6_feed 43 = .ok (.aload_n 0, 1) := by decide +kernel
theorem dX6_feed_44 : decode cX6_feed 44 = .ok (.iload_n 1, 1) := by decide +kernel
theorem dX6_feed_45 : decode cX6_feed 45 = .ok (.invokevirtual 51, 3) := by decide +kernel
theorem dX6_feed_48 : decode cX6_feed 48 = .ok (.aload_n 0, 1) := by decide +kernel
theorem dX6_feed_49 : decode cX6_feed 49 = .ok (.iload_n 2, 1) := by decide +kernel
theorem dX6_feed_50 : decode cX6_feed 50 = .ok (.invokevirtual 51, 3) := by decide +kernel
theorem dX6_feed_53 : decode cX6_feed 53 = .ok (.aload_n 0, 1) := by decide +kernel
theorem dX6_feed_54 : decode cX6_feed 54 = .ok (.iload_n 3, 1) := by decide +kernel
theorem dX6_feed_55 : decode cX6_feed 55 = .ok (.invokevirtual 51, 3) := by decide +kernel
theorem dX6_feed_58 : decode cX6_feed 58 = .ok (.aload_n 0, 1) := by decide +kernel
theorem dX6_feed_59 : decode cX6_feed 59 = .ok (.iload 4, 2) := by decide +kernel
theorem dX6_feed_61 : decode cX6_feed 61 = .ok (.invokevirtual 51, 3) := by decide +kernel
theorem dX6_feed_64 : decode cX6_feed 64 = .ok (.aload_n 0, 1) := by decide +kernel
theorem dX6_feed_65 : decode cX6_feed 65 = .ok (.iload 5, 2) := by decide +kernel
theorem dX6_feed_67 : decode cX6_feed 67 = .ok (.invokevirtual 51, 3) := by decide +kernel
theorem dX6_feed_70 : decode cX6_feed 70 = .ok (.aload_n 0, 1) := by decide +kernel
theorem dX6_feed_71 : decode cX6_feed 71 = .ok (.getfield 47, 3) := by decide +kernel
theorem dX6_feed_74 : decode cX6_feed 74 = .ok (.ireturn, 1) := by decide +kernel
theorem dX6_signsIn_0 : decode cX6_signsIn 0 = .ok (.iconst 0, 1) := by decide +kernel
theorem dX6_signsIn_1 : decode cX6_signsIn 1 = .ok (.istore_n 1, 1) := by decide +kernel
theorem dX6_signsIn_2 : decode cX6_signsIn 2 = .ok (.bipush 24, 2) := by decide +kernel
theorem dX6_signsIn_4 : decode cX6_signsIn 4 = .ok (.istore_n 2, 1) := by decide +kernel
theorem dX6_signsIn_5 : decode cX6_signsIn 5 = .ok (.iload_n 2, 1) := by decide +kernel
theorem dX6_signsIn_6 : decode cX6_signsIn 6 = .ok (.ifCond .lt 22, 3) := by decide +kernel
theorem dX6_signsIn_9 : decode cX6_signsIn 9 = .ok (.iload_n 0, 1) := by decide +kernel
theorem dX6_signsIn_10 : decode cX6_signsIn 10 = .ok (.iload_n 2, 1) := by decide +kernel
theorem dX6_signsIn_11 : decode cX6_signsIn 11 = .ok (.iushr, 1) := by decide +kernel
theorem dX6_signsIn_12 : decode cX6_signsIn 12 = .ok (.sipush 255, 3) := by decide +kernel
theorem dX6_signsIn_15 : decode cX6_signsIn 15 = .ok (.iand, 1) := by decide +kernel
theorem dX6_signsIn_16 : decode cX6_signsIn 16 = .ok (.ifCond .eq 6, 3) := by decide +kernel
theorem dX6_signsIn_19 : decode cX6_signsIn 19 = .ok (.iinc 1 1, 3) := by decide +kernel
theorem dX6_signsIn_22 : decode cX6_signsIn 22 = .ok (.iinc 2 (-8), 3) := by decide +kernel
theorem dX6_signsIn_25 : decode cX6_signsIn 25 = .ok (.goto (-20), 3) := by decide +kernel
theorem dX6_signsIn_28 : decode cX6_signsIn 28 = .ok (.iload_n 1, 1) := by decide +kernel
theorem dX6_signsIn_29 : decode cX6_signsIn 29 = .ok (.ireturn, 1) := by decide +kernel
theorem dX6_append_0 : decode cX6_append 0 = .ok (.bipush 24, 2) := by decide +kernel
theorem dX6_append_2 : decode cX6_append 2 = .ok (.istore_n 2, 1) := by decide +kernel
theorem dX6_append_3 : decode cX6_append 3 = .ok (.iload_n 2, 1) := by decide +kernel
theorem dX6_append_4 : decode cX6_append 4 = .ok (.ifCond .lt 51, 3) := by decide +kernel
theorem dX6_append_7 : decode cX6_append 7 = .ok (.iload_n 1, 1) := by decide +kernel
theorem dX6_append_8 : decode cX6_append 8 = .ok (.iload_n 2, 1) := by decide +kernel
theorem dX6_append_9 : decode cX6_append 9 = .ok (.iushr, 1) := by decide +kernel
theorem dX6_append_10 : decode cX6_append 10 = .ok (.sipush 255, 3) := by decide +kernel
theorem dX6_append_13 : decode cX6_append 13 = .ok (.iand, 1) := by decide +kernel
theorem dX6_append_14 : decode cX6_append 14 = .ok (.istore_n 3, 1) := by decide +kernel
theorem dX6_append_15 : decode cX6_append 15 = .ok (.iload_n 3, 1) := by decide +kernel
theorem dX6_append_16 : decode cX6_append 16 = .ok (.ifCond .eq 33, 3) := by decide +kernel
theorem dX6_append_19 : decode cX6_append 19 = .ok (.aload_n 0, 1) := by decide +kernel
theorem dX6_append_20 : decode cX6_append 20 = .ok (.getfield 47, 3) := by decide +kernel
theorem dX6_append_23 : decode cX6_append 23 = .ok (.sipush 160, 3) := by decide +kernel
theorem dX6_append_26 : decode cX6_append 26 = .ok (.if_icmp .ge 23, 3) := by decide +kernel
theorem dX6_append_29 : decode cX6_append 29 = .ok (.aload_n 0, 1) := by decide +kernel
theorem dX6_append_30 : decode cX6_append 30 = .ok (.getfield 9, 3) := by decide +kernel
theorem dX6_append_33 : decode cX6_append 33 = .ok (.aload_n 0, 1) := by decide +kernel
theorem dX6_append_34 : decode cX6_append 34 = .ok (.getfield 47, 3) := by decide +kernel
theorem dX6_append_37 : decode cX6_append 37 = .ok (.iload_n 3, 1) := by decide +kernel
theorem dX6_append_38 : decode cX6_append 38 = .ok (.iastore, 1) := by decide +kernel
theorem dX6_append_39 : decode cX6_append 39 = .ok (.aload_n 0, 1) := by decide +kernel
theorem dX6_append_40 : decode cX6_append 40 = .ok (.dup, 1) := by decide +kernel
theorem dX6_append_41 : decode cX6_append 41 = .ok (.getfield 47, 3) := by decide +kernel
theorem dX6_append_44 : decode cX6_append 44 = .ok (.iconst 1, 1) := by decide +kernel
theorem dX6_append_45 : decode cX6_append 45 = .ok (.iadd, 1) := by decide +kernel
theorem dX6_append_46 : decode cX6_append 46 = .ok (.putfield 47, 3) := by decide +kernel
theorem dX6_append_49 : decode cX6_append 49 = .ok (.iinc 2 (-8), 3) := by decide +kernel
theorem dX6_append_52 : decode cX6_append 52 = .ok (.goto (-49), 3) := by decide +kernel
theorem dX6_append_55 : decode cX6_append 55 = .ok (.return_, 1) := by decide +kernel
set_option maxRecDepth 20000 in
theorem ggX6_end_X6_outside : GoodIn wsX6_end wsX6_outside := goodIn_r _ [5] (by decide +kernel) (by decide +kernel)
set_option maxRecDepth 20000 in
theorem gX6_end_X6_outside : GoodIn wsX6_end (va_wsS RX6 55 yX6_outside wsX6_outside) := goodIn_app (goodIn_of _ (by decide +kernel)) ggX6_end_X6_outside
theorem dX6_end_0 : decode cX6_end 0 = .ok (.iload_n 1, 1) := by decide +kernel
theorem dX6_end_1 : decode cX6_end 1 = .ok (.iconst 0, 1) := by decide +kernel
theorem dX6_end_2 : decode cX6_end 2 = .ok (.aload_n 0, 1) := by decide +kernel
theorem dX6_end_3 : decode cX6_end 3 = .ok (.getfield 47, 3) := by decide +kernel
theorem dX6_end_6 : decode cX6_end 6 = .ok (.invokestatic 55, 3) := by decide +kernel
theorem dX6_end_9 : decode cX6_end 9 = .ok (.ifCond .eq 5, 3) := by decide +kernel
theorem dX6_end_12 : decode cX6_end 12 = .ok (.iconst 0, 1) := by decide +kernel
theorem dX6_end_13 : decode cX6_end 13 = .ok (.ireturn, 1) := by decide +kernel
theorem dX6_end_14 : decode cX6_end 14 = .ok (.aload_n 0, 1) := by decide +kernel
theorem dX6_end_15 : decode cX6_end 15 = .ok (.iload_n 1, 1) := by decide +kernel
theorem dX6_end_16 : decode cX6_end 16 = .ok (.putfield 47, 3) := by decide +kernel
theorem dX6_end_19 : decode cX6_end 19 = .ok (.iconst 1, 1) := by decide +kernel
theorem dX6_end_20 : decode cX6_end 20 = .ok (.ireturn, 1) := by decide +kernel
set_option maxRecDepth 20000 in
theorem ggX6_fault_X4_faultOf : GoodIn wsX6_fault wsX4_faultOf := goodIn_r _ [8, 9, 10, 11, 12, 13, 14, 15, 16, 17, 18, 19, 20, 21, 7, 22, 23, 24, 25, 26, 27, 28, 29, 30, 31, 32, 33, 34, 35, 36, 37, 38, 39, 40, 41, 42, 43, 44, 45, 46, 47, 48, 49, 50, 51, 52, 53, 54, 55, 56, 57, 58, 59, 60, 61, 62, 63, 64, 65, 66, 67, 68, 69, 70, 71, 72, 73, 74, 75, 76, 77, 78, 79, 80, 81, 82, 83, 84, 85, 86, 87, 88, 89, 90, 91, 92, 93, 94, 95, 96, 97, 98, 99, 100, 110, 111, 112, 113, 114, 115, 116] (by decide +kernel) (by decide +kernel)
set_option maxRecDepth 20000 in
theorem gX6_fault_X4_faultOf : GoodIn wsX6_fault (wsV RX6 59 RX4 yX4_faultOf wsX4_faultOf) := goodIn_app (goodIn_of _ (by decide +kernel)) ggX6_fault_X4_faultOf
theorem dX6_fault_0 : decode cX6_fault 0 = .ok (.aload_n 0, 1) := by decide +kernel
theorem dX6_fault_1 : decode cX6_fault 1 = .ok (.getfield 19, 3) := by decide +kernel
theorem dX6_fault_4 : decode cX6_fault 4 = .ok (.aload_n 0, 1) := by decide +kernel
theorem dX6_fault_5 : decode cX6_fault 5 = .ok (.getfield 9, 3) := by decide +kernel
theorem dX6_fault_8 : decode cX6_fault 8 = .ok (.aload_n 0, 1) := by decide +kernel
theorem dX6_fault_9 : decode cX6_fault 9 = .ok (.getfield 47, 3) := by decide +kernel
theorem dX6_fault_12 : decode cX6_fault 12 = .ok (.invokevirtual 59, 3) := by decide +kernel
theorem dX6_fault_15 : decode cX6_fault 15 = .ok (.ireturn, 1) := by decide +kernel
set_option maxRecDepth 20000 in
theorem ggX6_net_X4_faultOf : GoodIn wsX6_net wsX4_faultOf := goodIn_r _ [12, 13, 14, 15, 16, 17, 18, 19, 20, 21, 22, 23, 24, 25, 11, 26, 27, 28, 29, 30, 31, 32, 33, 34, 35, 36, 37, 38, 39, 40, 41, 42, 43, 44, 45, 46, 47, 48, 49, 50, 51, 52, 53, 54, 55, 56, 57, 58, 59, 60, 61, 62, 63, 64, 65, 66, 67, 68, 69, 70, 71, 72, 73, 74, 75, 76, 77, 78, 79, 80, 81, 82, 83, 84, 85, 86, 87, 88, 89, 90, 91, 92, 93, 94, 95, 96, 97, 98, 99, 100, 101, 102, 103, 104, 223, 224, 225, 226, 227, 228, 229] (by decide +kernel) (by decide +kernel)
set_option maxRecDepth 20000 in
theorem gX6_net_X4_faultOf : GoodIn wsX6_net (wsV RX6 59 RX4 yX4_faultOf wsX4_faultOf) := goodIn_app (goodIn_of _ (by decide +kernel)) ggX6_net_X4_faultOf
theorem dX6_net_0 : decode cX6_net 0 = .ok (.aload_n 0, 1) := by decide +kernel
theorem dX6_net_1 : decode cX6_net 1 = .ok (.getfield 19, 3) := by decide +kernel
theorem dX6_net_4 : decode cX6_net 4 = .ok (.aload_n 0, 1) := by decide +kernel
theorem dX6_net_5 : decode cX6_net 5 = .ok (.getfield 9, 3) := by decide +kernel
theorem dX6_net_8 : decode cX6_net 8 = .ok (.aload_n 0, 1) := by decide +kernel
theorem dX6_net_9 : decode cX6_net 9 = .ok (.getfield 47, 3) := by decide +kernel
theorem dX6_net_12 : decode cX6_net 12 = .ok (.invokevirtual 59, 3) := by decide +kernel
theorem dX6_net_15 : decode cX6_net 15 = .ok (.iconst (-1), 1) := by decide +kernel
theorem dX6_net_16 : decode cX6_net 16 = .ok (.if_icmp .eq 5, 3) := by decide +kernel
theorem dX6_net_19 : decode cX6_net 19 = .ok (.iconst (-1), 1) := by decide +kernel
theorem dX6_net_20 : decode cX6_net 20 = .ok (.ireturn, 1) := by decide +kernel
theorem dX6_rule_0 : decode cX6_rule 0 = .ok (.aload_n 0, 1) := by decide +kernel
theorem dX6_rule_1 : decode cX6_rule 1 = .ok (.getfield 70, 3) := by decide +kernel
theorem dX6_rule_4 : decode cX6_rule 4 = .ok (.ifCond .ne 6, 3) := by decide +kernel
theorem dX6_rule_7 : decode cX6_rule 7 = .ok (.ldc 77, 2) := by decide +kernel
theorem dX6_rule_9 : decode cX6_rule 9 = .ok (.ireturn, 1) := by decide +kernel
set_option maxRecDepth 20000 in
theorem ggX6_lane_X6_isLane : GoodIn wsX6_lane wsX6_isLane := goodIn_r _ [6, 7, 8, 9, 5, 10, 11, 1, 12, 13, 14, 15, 16, 17, 56, 57, 58, 59, 60, 61, 62, 63, 64, 65, 66, 67, 68, 69, 70, 71, 72, 73, 74, 75] (by decide +kernel) (by decide +kernel)
set_option maxRecDepth 20000 in
theorem gX6_lane_X6_isLane : GoodIn wsX6_lane (wsV RX6 167 RX6 yX6_isLane wsX6_isLane) := goodIn_app (goodIn_of _ (by decide +kernel)) ggX6_lane_X6_isLane
theorem dX6_lane_0 : decode cX6_lane 0 = .ok (.aload_n 0, 1) := by decide +kernel
theorem dX6_lane_1 : decode cX6_lane 1 = .ok (.iload_n 1, 1) := by decide +kernel
theorem dX6_lane_2 : decode cX6_lane 2 = .ok (.iload_n 2, 1) := by decide +kernel
theorem dX6_lane_3 : decode cX6_lane 3 = .ok (.invokevirtual 167, 3) := by decide +kernel
theorem dX6_lane_6 : decode cX6_lane 6 = .ok (.ifCond .eq 13, 3) := by decide +kernel
theorem dX6_lane_19 : decode cX6_lane 19 = .ok (.iconst (-1), 1) := by decide +kernel
theorem dX6_lane_20 : decode cX6_lane 20 = .ok (.ireturn, 1) := by decide +kernel
set_option maxRecDepth 20000 in
theorem ggX6_buffer_X6_isNode : GoodIn wsX6_buffer wsX6_isNode := goodIn_r _ [6, 7, 1, 8, 20, 21, 22, 23, 24, 25, 26, 27, 28, 29, 30, 31, 32, 33, 34, 35, 36, 37, 38, 39] (by decide +kernel) (by decide +kernel)
set_option maxRecDepth 20000 in
theorem gX6_buffer_X6_isNode : GoodIn wsX6_buffer (wsV RX6 211 RX6 yX6_isNode wsX6_isNode) := goodIn_app (goodIn_of _ (by decide +kernel)) ggX6_buffer_X6_isNode
theorem dX6_buffer_0 : decode cX6_buffer 0 = .ok (.aload_n 0, 1) := by decide +kernel
theorem dX6_buffer_1 : decode cX6_buffer 1 = .ok (.iload_n 1, 1) := by decide +kernel
theorem dX6_buffer_2 : decode cX6_buffer 2 = .ok (.invokevirtual 211, 3) := by decide +kernel
theorem dX6_buffer_5 : decode cX6_buffer 5 = .ok (.ifCond .eq 11, 3) := by decide +kernel
theorem dX6_buffer_16 : decode cX6_buffer 16 = .ok (.iconst (-1), 1) := by decide +kernel
theorem dX6_buffer_17 : decode cX6_buffer 17 = .ok (.ireturn, 1) := by decide +kernel
set_option maxRecDepth 20000 in
theorem ggX6_way_X6_isHop : GoodIn wsX6_way wsX6_isHop := goodIn_r _ [10, 11, 1, 12, 27, 28, 29, 30, 31, 32, 33, 34, 35, 36, 37, 38, 39, 40, 41, 42, 43, 44, 45, 46] (by decide +kernel) (by decide +kernel)
set_option maxRecDepth 20000 in
theorem gX6_way_X6_isHop : GoodIn wsX6_way (wsV RX6 93 RX6 yX6_isHop wsX6_isHop) := goodIn_app (goodIn_of _ (by decide +kernel)) ggX6_way_X6_isHop
theorem dX6_way_0 : decode cX6_way 0 = .ok (.aload_n 0, 1) := by decide +kernel
theorem dX6_way_1 : decode cX6_way 1 = .ok (.iload_n 1, 1) := by decide +kernel
theorem dX6_way_2 : decode cX6_way 2 = .ok (.invokevirtual 93, 3) := by decide +kernel
theorem dX6_way_5 : decode cX6_way 5 = .ok (.ifCond .eq 21, 3) := by decide +kernel
theorem dX6_way_26 : decode cX6_way 26 = .ok (.iconst (-1), 1) := by decide +kernel
theorem dX6_way_27 : decode cX6_way 27 = .ok (.ireturn, 1) := by decide +kernel
set_option maxRecDepth 20000 in
theorem ggX6_go_X6_refuse : GoodIn wsX6_go wsX6_refuse := goodIn_r _ [8, 9, 176, 177, 178, 179, 180, 181, 182, 183, 184] (by decide +kernel) (by decide +kernel)
set_option maxRecDepth 20000 in
theorem gX6_go_X6_refuse : GoodIn wsX6_go (wsV RX6 227 RX6 yX6_refuse wsX6_refuse) := goodIn_app (goodIn_of _ (by decide +kernel)) ggX6_go_X6_refuse
theorem dX6_go_0 : decode cX6_go 0 = .ok (.aload_n 0, 1) := by decide +kernel
theorem dX6_go_1 : decode cX6_go 1 = .ok (.getfield 70, 3) := by decide +kernel
theorem dX6_go_4 : decode cX6_go 4 = .ok (.ifCond .ne 9, 3) := by decide +kernel
theorem dX6_go_7 : decode cX6_go 7 = .ok (.aload_n 0, 1) := by decide +kernel
theorem dX6_go_8 : decode cX6_go 8 = .ok (.iconst 0, 1) := by decide +kernel
theorem dX6_go_9 : decode cX6_go 9 = .ok (.invokevirtual 227, 3) := by decide +kernel
theorem dX6_go_12 : decode cX6_go 12 = .ok (.ireturn, 1) := by decide +kernel
set_option maxRecDepth 20000 in
theorem ggX6_jam_X6_isHop : GoodIn wsX6_jam wsX6_isHop := goodIn_r _ [8, 9, 1, 10, 19, 20, 21, 22, 23, 24, 25, 26, 27, 28, 29, 30, 31, 32, 33, 34, 35, 36, 37, 38] (by decide +kernel) (by decide +kernel)
set_option maxRecDepth 20000 in
theorem gX6_jam_X6_isHop : GoodIn wsX6_jam (wsV RX6 93 RX6 yX6_isHop wsX6_isHop) := goodIn_app (goodIn_of _ (by decide +kernel)) ggX6_jam_X6_isHop
set_option maxRecDepth 20000 in
theorem ggX6_jam_X6_refuse : GoodIn wsX6_jam wsX6_refuse := goodIn_r _ [14, 15, 19, 20, 21, 22, 23, 24, 25, 26, 27] (by decide +kernel) (by decide +kernel)
set_option maxRecDepth 20000 in
theorem gX6_jam_X6_refuse : GoodIn wsX6_jam (wsV RX6 227 RX6 yX6_refuse wsX6_refuse) := goodIn_app (goodIn_of _ (by decide +kernel)) ggX6_jam_X6_refuse
theorem dX6_jam_0 : decode cX6_jam 0 = .ok (.aload_n 0, 1) := by decide +kernel
theorem dX6_jam_1 : decode cX6_jam 1 = .ok (.iload_n 1, 1) := by decide +kernel
theorem dX6_jam_2 : decode cX6_jam 2 = .ok (.invokevirtual 93, 3) := by decide +kernel
theorem dX6_jam_5 : decode cX6_jam 5 = .ok (.ifCond .ne 9, 3) := by decide +kernel
theorem dX6_jam_8 : decode cX6_jam 8 = .ok (.aload_n 0, 1) := by decide +kernel
theorem dX6_jam_9 : decode cX6_jam 9 = .ok (.iconst 0, 1) := by decide +kernel
theorem dX6_jam_10 : decode cX6_jam 10 = .ok (.invokevirtual 227, 3) := by decide +kernel
theorem dX6_jam_13 : decode cX6_jam 13 = .ok (.ireturn, 1) := by decide +kernel
set_option maxRecDepth 20000 in
theorem ggX6_source_X6_isCircuit : GoodIn wsX6_source wsX6_isCircuit := goodIn_r _ [9, 10, 1, 11, 20, 21, 22, 23, 24, 25, 26, 27, 28, 29, 30, 31, 32, 33, 34, 35, 36, 37, 38, 39] (by decide +kernel) (by decide +kernel)
set_option maxRecDepth 20000 in
theorem gX6_source_X6_isCircuit : GoodIn wsX6_source (wsV RX6 135 RX6 yX6_isCircuit wsX6_isCircuit) := goodIn_app (goodIn_of _ (by decide +kernel)) ggX6_source_X6_isCircuit
set_option maxRecDepth 20000 in
theorem ggX6_source_X6_refuse : GoodIn wsX6_source wsX6_refuse := goodIn_r _ [15, 16, 20, 21, 22, 23, 24, 25, 26, 27, 28] (by decide +kernel) (by decide +kernel)
set_option maxRecDepth 20000 in
theorem gX6_source_X6_refuse : GoodIn wsX6_source (wsV RX6 227 RX6 yX6_refuse wsX6_refuse) := goodIn_app (goodIn_of _ (by decide +kernel)) ggX6_source_X6_refuse
theorem dX6_source_0 : decode cX6_source 0 = .ok (.aload_n 0, 1) := by decide +kernel
theorem dX6_source_1 : decode cX6_source 1 = .ok (.iload_n 1, 1) := by decide +kernel
theorem dX6_source_2 : decode cX6_source 2 = .ok (.invokevirtual 135, 3) := by decide +kernel
theorem dX6_source_5 : decode cX6_source 5 = .ok (.ifCond .ne 9, 3) := by decide +kernel
theorem dX6_source_8 : decode cX6_source 8 = .ok (.aload_n 0, 1) := by decide +kernel
theorem dX6_source_9 : decode cX6_source 9 = .ok (.iconst 0, 1) := by decide +kernel
theorem dX6_source_10 : decode cX6_source 10 = .ok (.invokevirtual 227, 3) := by decide +kernel
theorem dX6_source_13 : decode cX6_source 13 = .ok (.ireturn, 1) := by decide +kernel
set_option maxRecDepth 20000 in
theorem ggX6_takes_X6_isCircuit : GoodIn wsX6_takes wsX6_isCircuit := goodIn_r _ [8, 9, 1, 10, 19, 20, 21, 22, 23, 24, 25, 26, 27, 28, 29, 30, 31, 32, 33, 34, 35, 36, 37, 38] (by decide +kernel) (by decide +kernel)
set_option maxRecDepth 20000 in
theorem gX6_takes_X6_isCircuit : GoodIn wsX6_takes (wsV RX6 135 RX6 yX6_isCircuit wsX6_isCircuit) := goodIn_app (goodIn_of _ (by decide +kernel)) ggX6_takes_X6_isCircuit
set_option maxRecDepth 20000 in
theorem ggX6_takes_X6_refuse : GoodIn wsX6_takes wsX6_refuse := goodIn_r _ [14, 15, 19, 20, 21, 22, 23, 24, 25, 26, 27] (by decide +kernel) (by decide +kernel)
set_option maxRecDepth 20000 in
theorem gX6_takes_X6_refuse : GoodIn wsX6_takes (wsV RX6 227 RX6 yX6_refuse wsX6_refuse) := goodIn_app (goodIn_of _ (by decide +kernel)) ggX6_takes_X6_refuse
theorem dX6_takes_0 : decode cX6_takes 0 = .ok (.aload_n 0, 1) := by decide +kernel
theorem dX6_takes_1 : decode cX6_takes 1 = .ok (.iload_n 1, 1) := by decide +kernel
theorem dX6_takes_2 : decode cX6_takes 2 = .ok (.invokevirtual 135, 3) := by decide +kernel
theorem dX6_takes_5 : decode cX6_takes 5 = .ok (.ifCond .ne 9, 3) := by decide +kernel
theorem dX6_takes_8 : decode cX6_takes 8 = .ok (.aload_n 0, 1) := by decide +kernel
theorem dX6_takes_9 : decode cX6_takes 9 = .ok (.iconst 0, 1) := by decide +kernel
theorem dX6_takes_10 : decode cX6_takes 10 = .ok (.invokevirtual 227, 3) := by decide +kernel
theorem dX6_takes_13 : decode cX6_takes 13 = .ok (.ireturn, 1) := by decide +kernel
set_option maxRecDepth 20000 in
theorem ggX6_zone_X6_zoneRefusal : GoodIn wsX6_zone wsX6_zoneRefusal := goodIn_r _ [9, 1, 2, 10, 11, 3, 4, 12, 13, 14, 8, 15, 16, 17, 18, 19, 20, 21, 22, 23, 24, 25, 26, 27, 28, 29, 30, 31, 32, 33, 34, 35, 36, 37, 38, 39, 40, 41, 42, 43, 44, 45, 46, 47, 48, 49, 50, 51, 52, 53, 59, 60, 61, 62, 63, 64, 65, 66, 67, 68, 69, 70, 71, 72, 73, 74, 75, 76, 77, 78, 79, 80, 81, 82, 83, 84, 85, 86, 87, 88, 89, 90, 91, 92, 93, 94, 95] (by decide +kernel) (by decide +kernel)
set_option maxRecDepth 20000 in
theorem gX6_zone_X6_zoneRefusal : GoodIn wsX6_zone (wsV RX6 248 RX6 yX6_zoneRefusal wsX6_zoneRefusal) := goodIn_app (goodIn_of _ (by decide +kernel)) ggX6_zone_X6_zoneRefusal
set_option maxRecDepth 20000 in
theorem ggX6_zone_X6_refuse : GoodIn wsX6_zone wsX6_refuse := goodIn_r _ [57, 58, 59, 60, 61, 62, 63, 64, 65, 66, 67] (by decide +kernel) (by decide +kernel)
set_option maxRecDepth 20000 in
theorem gX6_zone_X6_refuse : GoodIn wsX6_zone (wsV RX6 227 RX6 yX6_refuse wsX6_refuse) := goodIn_app (goodIn_of _ (by decide +kernel)) ggX6_zone_X6_refuse
theorem dX6_zone_0 : decode cX6_zone 0 = .ok (.aload_n 0, 1) := by decide +kernel
theorem dX6_zone_1 : decode cX6_zone 1 = .ok (.iload_n 1, 1) := by decide +kernel
theorem dX6_zone_2 : decode cX6_zone 2 = .ok (.iload_n 2, 1) := by decide +kernel
theorem dX6_zone_3 : decode cX6_zone 3 = .ok (.iload_n 3, 1) := by decide +kernel
theorem dX6_zone_4 : decode cX6_zone 4 = .ok (.invokevirtual 248, 3) := by decide +kernel
theorem dX6_zone_7 : decode cX6_zone 7 = .ok (.istore 4, 2) := by decide +kernel
theorem dX6_zone_9 : decode cX6_zone 9 = .ok (.iload 4, 2) := by decide +kernel
theorem dX6_zone_11 : decode cX6_zone 11 = .ok (.iconst (-1), 1) := by decide +kernel
theorem dX6_zone_12 : decode cX6_zone 12 = .ok (.if_icmp .eq 10, 3) := by decide +kernel
theorem dX6_zone_15 : decode cX6_zone 15 = .ok (.aload_n 0, 1) := by decide +kernel
theorem dX6_zone_16 : decode cX6_zone 16 = .ok (.iload 4, 2) := by decide +kernel
theorem dX6_zone_18 : decode cX6_zone 18 = .ok (.invokevirtual 227, 3) := by decide +kernel
theorem dX6_zone_21 : decode cX6_zone 21 = .ok (.ireturn, 1) := by decide +kernel
set_option maxRecDepth 20000 in
theorem ggX6_zoneRefusal_X6_isLane : GoodIn wsX6_zoneRefusal wsX6_isLane := goodIn_r _ [11, 12, 13, 14, 10, 15, 16, 1, 17, 18, 19, 20, 21, 22, 50, 51, 52, 53, 54, 55, 56, 57, 58, 59, 60, 61, 62, 63, 64, 65, 66, 67, 68, 69] (by decide +kernel) (by decide +kernel)
set_option maxRecDepth 20000 in
theorem gX6_zoneRefusal_X6_isLane : GoodIn wsX6_zoneRefusal (wsV RX6 167 RX6 yX6_isLane wsX6_isLane) := goodIn_app (goodIn_of _ (by decide +kernel)) ggX6_zoneRefusal_X6_isLane
theorem dX6_zoneRefusal_0 : decode cX6_zoneRefusal 0 = .ok (.aload_n 0, 1) := by decide +kernel
theorem dX6_zoneRefusal_1 : decode cX6_zoneRefusal 1 = .ok (.iload_n 1, 1) := by decide +kernel
theorem dX6_zoneRefusal_2 : decode cX6_zoneRefusal 2 = .ok (.iload_n 2, 1) := by decide +kernel
theorem dX6_zoneRefusal_3 : decode cX6_zoneRefusal 3 = .ok (.invokevirtual 167, 3) := by decide +kernel
theorem dX6_zoneRefusal_6 : decode cX6_zoneRefusal 6 = .ok (.ifCond .ne 5, 3) := by decide +kernel
theorem dX6_zoneRefusal_9 : decode cX6_zoneRefusal 9 = .ok (.iconst 0, 1) := by decide +kernel
theorem dX6_zoneRefusal_10 : decode cX6_zoneRefusal 10 = .ok (.ireturn, 1) := by decide +kernel
set_option maxRecDepth 20000 in
theorem ggX6_probe_X6_isLane : GoodIn wsX6_probe wsX6_isLane := goodIn_r _ [8, 9, 10, 11, 7, 12, 13, 1, 14, 15, 16, 17, 18, 19, 43, 44, 45, 46, 47, 48, 49, 50, 51, 52, 53, 54, 55, 56, 57, 58, 59, 60, 61, 62] (by decide +kernel) (by decide +kernel)
set_option maxRecDepth 20000 in
theorem gX6_probe_X6_isLane : GoodIn wsX6_probe (wsV RX6 167 RX6 yX6_isLane wsX6_isLane) := goodIn_app (goodIn_of _ (by decide +kernel)) ggX6_probe_X6_isLane
set_option maxRecDepth 20000 in
theorem ggX6_probe_X6_refuse : GoodIn wsX6_probe wsX6_refuse := goodIn_r _ [23, 24, 43, 44, 45, 46, 47, 48, 49, 50, 51] (by decide +kernel) (by decide +kernel)
set_option maxRecDepth 20000 in
theorem gX6_probe_X6_refuse : GoodIn wsX6_probe (wsV RX6 227 RX6 yX6_refuse wsX6_refuse) := goodIn_app (goodIn_of _ (by decide +kernel)) ggX6_probe_X6_refuse
theorem dX6_probe_0 : decode cX6_probe 0 = .ok (.aload_n 0, 1) := by decide +kernel
theorem dX6_probe_1 : decode cX6_probe 1 = .ok (.iload_n 1, 1) := by decide +kernel
theorem dX6_probe_2 : decode cX6_probe 2 = .ok (.iload_n 2, 1) := by decide +kernel
theorem dX6_probe_3 : decode cX6_probe 3 = .ok (.invokevirtual 167, 3) := by decide +kernel
theorem dX6_probe_6 : decode cX6_probe 6 = .ok (.ifCond .ne 9, 3) := by decide +kernel
theorem dX6_probe_9 : decode cX6_probe 9 = .ok (.aload_n 0, 1) := by decide +kernel
theorem dX6_probe_10 : decode cX6_probe 10 = .ok (.iconst 0, 1) := by decide +kernel
theorem dX6_probe_11 : decode cX6_probe 11 = .ok (.invokevirtual 227, 3) := by decide +kernel
theorem dX6_probe_14 : decode cX6_probe 14 = .ok (.ireturn, 1) := by decide +kernel
set_option maxRecDepth 20000 in
theorem ggX6_status_X6_outside : GoodIn wsX6_status wsX6_outside := goodIn_r _ [5] (by decide +kernel) (by decide +kernel)
set_option maxRecDepth 20000 in
theorem gX6_status_X6_outside : GoodIn wsX6_status (va_wsS RX6 55 yX6_outside wsX6_outside) := goodIn_app (goodIn_of _ (by decide +kernel)) ggX6_status_X6_outside
theorem dX6_status_0 : decode cX6_status 0 = .ok (.iload_n 1, 1) := by decide +kernel
theorem dX6_status_1 : decode cX6_status 1 = .ok (.iconst 0, 1) := by decide +kernel
theorem dX6_status_2 : decode cX6_status 2 = .ok (.iconst 3, 1) := by decide +kernel
theorem dX6_status_3 : decode cX6_status 3 = .ok (.invokestatic 55, 3) := by decide +kernel
theorem dX6_status_6 : decode cX6_status 6 = .ok (.ifCond .eq 7, 3) := by decide +kernel
theorem dX6_status_9 : decode cX6_status 9 = .ok (.iconst (-1), 1) := by decide +kernel
theorem dX6_status_10 : decode cX6_status 10 = .ok (.goto 9, 3) := by decide +kernel
theorem dX6_status_13 : decode cX6_status 13 = .ok (.aload_n 0, 1) := by decide +kernel
theorem dX6_status_14 : decode cX6_status 14 = .ok (.getfield 13, 3) := by decide +kernel
theorem dX6_status_17 : decode cX6_status 17 = .ok (.iload_n 1, 1) := by decide +kernel
theorem dX6_status_18 : decode cX6_status 18 = .ok (.iaload, 1) := by decide +kernel
theorem dX6_status_19 : decode cX6_status 19 = .ok (.ireturn, 1) := by decide +kernel
theorem dX6_refuse_0 : decode cX6_refuse 0 = .ok (.aload_n 0, 1) := by decide +kernel
theorem dX6_refuse_1 : decode cX6_refuse 1 = .ok (.getfield 13, 3) := by decide +kernel
theorem dX6_refuse_4 : decode cX6_refuse 4 = .ok (.iload_n 1, 1) := by decide +kernel
theorem dX6_refuse_5 : decode cX6_refuse 5 = .ok (.dup2, 1) := by decide +kernel
theorem dX6_refuse_6 : decode cX6_refuse 6 = .ok (.iaload, 1) := by decide +kernel
theorem dX6_refuse_7 : decode cX6_refuse 7 = .ok (.iconst 1, 1) := by decide +kernel
theorem dX6_refuse_8 : decode cX6_refuse 8 = .ok (.iadd, 1) := by decide +kernel
theorem dX6_refuse_9 : decode cX6_refuse 9 = .ok (.iastore, 1) := by decide +kernel
theorem dX6_refuse_10 : decode cX6_refuse 10 = .ok (.iconst (-1), 1) := by decide +kernel
theorem dX6_refuse_11 : decode cX6_refuse 11 = .ok (.ireturn, 1) := by decide +kernel
set_option maxRecDepth 20000 in
theorem ggX6_laneAhead_X6_isLane : GoodIn wsX6_laneAhead wsX6_isLane := goodIn_r _ [6, 7, 8, 9, 5, 10, 11, 12, 13, 14, 15, 16, 17, 18, 223, 224, 225, 226, 227, 228, 229, 230, 231, 232, 233, 234, 235, 236, 237, 238, 239, 240, 241, 242] (by decide +kernel) (by decide +kernel)
set_option maxRecDepth 20000 in
theorem gX6_laneAhead_X6_isLane : GoodIn wsX6_laneAhead (wsV RX6 167 RX6 yX6_isLane wsX6_isLane) := goodIn_app (goodIn_of _ (by decide +kernel)) ggX6_laneAhead_X6_isLane
theorem dX6_laneAhead_0 : decode cX6_laneAhead 0 = .ok (.aload_n 0, 1) := by decide +kernel
theorem dX6_laneAhead_1 : decode cX6_laneAhead 1 = .ok (.iload_n 1, 1) := by decide +kernel
theorem dX6_laneAhead_2 : decode cX6_laneAhead 2 = .ok (.iload_n 2, 1) := by decide +kernel
theorem dX6_laneAhead_3 : decode cX6_laneAhead 3 = .ok (.invokevirtual 167, 3) := by decide +kernel
theorem dX6_laneAhead_6 : decode cX6_laneAhead 6 = .ok (.ifCond .eq 25, 3) := by decide +kernel
theorem dX6_laneAhead_31 : decode cX6_laneAhead 31 = .ok (.iconst (-1), 1) := by decide +kernel
theorem dX6_laneAhead_32 : decode cX6_laneAhead 32 = .ok (.ireturn, 1) := by decide +kernel
set_option maxRecDepth 20000 in
theorem ggX6_bufferAhead_X6_isNode : GoodIn wsX6_bufferAhead wsX6_isNode := goodIn_r _ [6, 7, 8, 9, 200, 201, 202, 203, 204, 205, 206, 207, 208, 209, 210, 211, 212, 213, 214, 215, 216, 217, 218, 219] (by decide +kernel) (by decide +kernel)
set_option maxRecDepth 20000 in
theorem gX6_bufferAhead_X6_isNode : GoodIn wsX6_bufferAhead (wsV RX6 211 RX6 yX6_isNode wsX6_isNode) := goodIn_app (goodIn_of _ (by decide +kernel)) ggX6_bufferAhead_X6_isNode
theorem dX6_bufferAhead_0 : decode cX6_bufferAhead 0 = .ok (.aload_n 0, 1) := by decide +kernel
theorem dX6_bufferAhead_1 : decode cX6_bufferAhead 1 = .ok (.iload_n 1, 1) := by decide +kernel
theorem dX6_bufferAhead_2 : decode cX6_bufferAhead 2 = .ok (.invokevirtual 211, 3) := by decide +kernel
theorem dX6_bufferAhead_5 : decode cX6_bufferAhead 5 = .ok (.ifCond .eq 22, 3) := by decide +kernel
theorem dX6_bufferAhead_27 : decode cX6_bufferAhead 27 = .ok (.iconst (-1), 1) := by decide +kernel
theorem dX6_bufferAhead_28 : decode cX6_bufferAhead 28 = .ok (.ireturn, 1) := by decide +kernel
theorem dX6_delivered_0 : decode cX6_delivered 0 = .ok (.aload_n 0, 1) := by decide +kernel
theorem dX6_delivered_1 : decode cX6_delivered 1 = .ok (.getfield 70, 3) := by decide +kernel
theorem dX6_delivered_4 : decode cX6_delivered 4 = .ok (.ifCond .eq 27, 3) := by decide +kernel
theorem dX6_delivered_31 : decode cX6_delivered 31 = .ok (.iconst (-1), 1) := by decide +kernel
theorem dX6_delivered_32 : decode cX6_delivered 32 = .ok (.ireturn, 1) := by decide +kernel
set_option maxRecDepth 20000 in
theorem ggX6_heldUp_X6_isLane : GoodIn wsX6_heldUp wsX6_isLane := goodIn_r _ [9, 10, 11, 12, 8, 13, 14, 2, 15, 16, 17, 18, 19, 20, 191, 192, 193, 194, 195, 196, 197, 198, 199, 200, 201, 202, 203, 204, 205, 206, 207, 208, 209, 210] (by decide +kernel) (by decide +kernel)
set_option maxRecDepth 20000 in
theorem gX6_heldUp_X6_isLane : GoodIn wsX6_heldUp (wsV RX6 167 RX6 yX6_isLane wsX6_isLane) := goodIn_app (goodIn_of _ (by decide +kernel)) ggX6_heldUp_X6_isLane
theorem dX6_heldUp_0 : decode cX6_heldUp 0 = .ok (.aload_n 0, 1) := by decide +kernel
theorem dX6_heldUp_1 : decode cX6_heldUp 1 = .ok (.iload_n 1, 1) := by decide +kernel
theorem dX6_heldUp_2 : decode cX6_heldUp 2 = .ok (.iload_n 2, 1) := by decide +kernel
theorem dX6_heldUp_3 : decode cX6_heldUp 3 = .ok (.invokevirtual 167, 3) := by decide +kernel
theorem dX6_heldUp_6 : decode cX6_heldUp 6 = .ok (.ifCond .ne 5, 3) := by decide +kernel
theorem dX6_heldUp_9 : decode cX6_heldUp 9 = .ok (.iconst (-1), 1) := by decide +kernel
theorem dX6_heldUp_10 : decode cX6_heldUp 10 = .ok (.ireturn, 1) := by decide +kernel
set_option maxRecDepth 20000 in
theorem ggX6_idle_X6_isHop : GoodIn wsX6_idle wsX6_isHop := goodIn_r _ [6, 7, 8, 9, 194, 195, 196, 197, 198, 199, 200, 201, 202, 203, 204, 205, 206, 207, 208, 209, 210, 211, 212, 213] (by decide +kernel) (by decide +kernel)
set_option maxRecDepth 20000 in
theorem gX6_idle_X6_isHop : GoodIn wsX6_idle (wsV RX6 93 RX6 yX6_isHop wsX6_isHop) := goodIn_app (goodIn_of _ (by decide +kernel)) ggX6_idle_X6_isHop
theorem dX6_idle_0 : decode cX6_idle 0 = .ok (.aload_n 0, 1) := by decide +kernel
theorem dX6_idle_1 : decode cX6_idle 1 = .ok (.iload_n 1, 1) := by decide +kernel
theorem dX6_idle_2 : decode cX6_idle 2 = .ok (.invokevirtual 93, 3) := by decide +kernel
theorem dX6_idle_5 : decode cX6_idle 5 = .ok (.ifCond .eq 14, 3) := by decide +kernel
theorem dX6_idle_19 : decode cX6_idle 19 = .ok (.iconst (-1), 1) := by decide +kernel
theorem dX6_idle_20 : decode cX6_idle 20 = .ok (.ireturn, 1) := by decide +kernel
set_option maxRecDepth 20000 in
theorem ggX6_most_X6_isNode : GoodIn wsX6_most wsX6_isNode := goodIn_r _ [11, 12, 2, 13, 201, 202, 203, 204, 205, 206, 207, 208, 209, 210, 211, 212, 213, 214, 215, 216, 217, 218, 219, 220] (by decide +kernel) (by decide +kernel)
set_option maxRecDepth 20000 in
theorem gX6_most_X6_isNode : GoodIn wsX6_most (wsV RX6 211 RX6 yX6_isNode wsX6_isNode) := goodIn_app (goodIn_of _ (by decide +kernel)) ggX6_most_X6_isNode
theorem dX6_most_0 : decode cX6_most 0 = .ok (.aload_n 0, 1) := by decide +kernel
theorem dX6_most_1 : decode cX6_most 1 = .ok (.iload_n 1, 1) := by decide +kernel
theorem dX6_most_2 : decode cX6_most 2 = .ok (.invokevirtual 211, 3) := by decide +kernel
theorem dX6_most_5 : decode cX6_most 5 = .ok (.ifCond .eq 32, 3) := by decide +kernel
theorem dX6_most_37 : decode cX6_most 37 = .ok (.iconst (-1), 1) := by decide +kernel
theorem dX6_most_38 : decode cX6_most 38 = .ok (.ireturn, 1) := by decide +kernel
theorem dX6_healed_0 : decode cX6_healed 0 = .ok (.aload_n 0, 1) := by decide +kernel
theorem dX6_healed_1 : decode cX6_healed 1 = .ok (.getfield 70, 3) := by decide +kernel
theorem dX6_healed_4 : decode cX6_healed 4 = .ok (.ifCond .ne 5, 3) := by decide +kernel
theorem dX6_healed_7 : decode cX6_healed 7 = .ok (.iconst (-1), 1) := by decide +kernel
theorem dX6_healed_8 : decode cX6_healed 8 = .ok (.ireturn, 1) := by decide +kernel
theorem dX6_loss_0 : decode cX6_loss 0 = .ok (.aload_n 0, 1) := by decide +kernel
theorem dX6_loss_1 : decode cX6_loss 1 = .ok (.getfield 70, 3) := by decide +kernel
theorem dX6_loss_4 : decode cX6_loss 4 = .ok (.ifCond .eq 24, 3) := by decide +kernel
theorem dX6_loss_28 : decode cX6_loss 28 = .ok (.ldc 77, 2) := by decide +kernel
theorem dX6_loss_30 : decode cX6_loss 30 = .ok (.ireturn, 1) := by decide +kernel
theorem dX6_fair_0 : decode cX6_fair 0 = .ok (.aload_n 0, 1) := by decide +kernel
theorem dX6_fair_1 : decode cX6_fair 1 = .ok (.getfield 70, 3) := by decide +kernel
theorem dX6_fair_4 : decode cX6_fair 4 = .ok (.ifCond .eq 14, 3) := by decide +kernel
theorem dX6_fair_18 : decode cX6_fair 18 = .ok (.iconst (-1), 1) := by decide +kernel
theorem dX6_fair_19 : decode cX6_fair 19 = .ok (.ireturn, 1) := by decide +kernel
set_option maxRecDepth 20000 in
theorem ggX6_learns_X6_isLane : GoodIn wsX6_learns wsX6_isLane := goodIn_r _ [11, 12, 13, 14, 10, 15, 16, 1, 17, 18, 19, 20, 21, 22, 194, 195, 196, 197, 198, 199, 200, 201, 202, 203, 204, 205, 206, 207, 208, 209, 210, 211, 212, 213] (by decide +kernel) (by decide +kernel)
set_option maxRecDepth 20000 in
theorem gX6_learns_X6_isLane : GoodIn wsX6_learns (wsV RX6 167 RX6 yX6_isLane wsX6_isLane) := goodIn_app (goodIn_of _ (by decide +kernel)) ggX6_learns_X6_isLane
theorem dX6_learns_0 : decode cX6_learns 0 = .ok (.aload_n 0, 1) := by decide +kernel
theorem dX6_learns_1 : decode cX6_learns 1 = .ok (.iload_n 1, 1) := by decide +kernel
theorem dX6_learns_2 : decode cX6_learns 2 = .ok (.iload_n 2, 1) := by decide +kernel
theorem dX6_learns_3 : decode cX6_learns 3 = .ok (.invokevirtual 167, 3) := by decide +kernel
theorem dX6_learns_6 : decode cX6_learns 6 = .ok (.ifCond .ne 5, 3) := by decide +kernel
theorem dX6_learns_9 : decode cX6_learns 9 = .ok (.iconst (-1), 1) := by decide +kernel
theorem dX6_learns_10 : decode cX6_learns 10 = .ok (.ireturn, 1) := by decide +kernel
theorem dX6_reaches_0 : decode cX6_reaches 0 = .ok (.iload_n 0, 1) := by decide +kernel
theorem dX6_reaches_1 : decode cX6_reaches 1 = .ok (.iload_n 1, 1) := by decide +kernel
theorem dX6_reaches_2 : decode cX6_reaches 2 = .ok (.isub, 1) := by decide +kernel
theorem dX6_reaches_3 : decode cX6_reaches 3 = .ok (.bipush 63, 2) := by decide +kernel
theorem dX6_reaches_5 : decode cX6_reaches 5 = .ok (.iand, 1) := by decide +kernel
theorem dX6_reaches_6 : decode cX6_reaches 6 = .ok (.bipush 32, 2) := by decide +kernel
theorem dX6_reaches_8 : decode cX6_reaches 8 = .ok (.if_icmp .ge 7, 3) := by decide +kernel
theorem dX6_reaches_11 : decode cX6_reaches 11 = .ok (.iconst 1, 1) := by decide +kernel
theorem dX6_reaches_12 : decode cX6_reaches 12 = .ok (.goto 4, 3) := by decide +kernel
theorem dX6_reaches_15 : decode cX6_reaches 15 = .ok (.iconst 0, 1) := by decide +kernel
theorem dX6_reaches_16 : decode cX6_reaches 16 = .ok (.ireturn, 1) := by decide +kernel
theorem dX6_stuck_0 : decode cX6_stuck 0 = .ok (.aload_n 0, 1) := by decide +kernel
theorem dX6_stuck_1 : decode cX6_stuck 1 = .ok (.getfield 70, 3) := by decide +kernel
theorem dX6_stuck_4 : decode cX6_stuck 4 = .ok (.ifCond .eq 13, 3) := by decide +kernel
theorem dX6_stuck_17 : decode cX6_stuck 17 = .ok (.iconst 0, 1) := by decide +kernel
theorem dX6_stuck_18 : decode cX6_stuck 18 = .ok (.ireturn, 1) := by decide +kernel
set_option maxRecDepth 20000 in
theorem ggX6_would_X6_zoneRefusal : GoodIn wsX6_would wsX6_zoneRefusal := goodIn_r _ [5, 6, 7, 8, 9, 10, 11, 12, 13, 14, 4, 15, 16, 17, 18, 19, 20, 21, 22, 23, 24, 25, 26, 27, 28, 29, 30, 31, 32, 33, 34, 35, 36, 37, 38, 39, 40, 41, 42, 43, 44, 45, 46, 47, 48, 49, 50, 51, 52, 53, 223, 224, 225, 226, 227, 228, 229, 230, 231, 232, 233, 234, 235, 236, 237, 238, 239, 240, 241, 242, 243, 244, 245, 246, 247, 248, 249, 250, 251, 252, 253, 254, 255, 256, 257, 258, 259] (by decide +kernel) (by decide +kernel)
end
section
set_option maxRecDepth 20000 in
theorem gX6_would_X6_zoneRefusal : GoodIn wsX6_would (wsV RX6 248 RX6 yX6_zoneRefusal wsX6_zoneRefusal) := goodIn_app (goodIn_of _ (by decide +kernel)) ggX6_would_X6_zoneRefusal
theorem dX6_would_0 : decode cX6_would 0 = .ok (.aload_n 0, 1) := by decide +kernel
theorem dX6_would_1 : decode cX6_would 1 = .ok (.iload_n 1, 1) := by decide +kernel
theorem dX6_would_2 : decode cX6_would 2 = .ok (.iload_n 2, 1) := by decide +kernel
theorem dX6_would_3 : decode cX6_would 3 = .ok (.iload_n 3, 1) := by decide +kernel
theorem dX6_would_4 : decode cX6_would 4 = .ok (.invokevirtual 248, 3) := by decide +kernel
theorem dX6_would_7 : decode cX6_would 7 = .ok (.iconst (-1), 1) := by decide +kernel
theorem dX6_would_8 : decode cX6_would 8 = .ok (.if_icmp .ne 15, 3) := by decide +kernel
theorem dX6_would_23 : decode cX6_would 23 = .ok (.iconst (-1), 1) := by decide +kernel
theorem dX6_would_24 : decode cX6_would 24 = .ok (.ireturn, 1) := by decide +kernel
set_option maxRecDepth 20000 in
theorem ggX6_bestZone_X6_isLane : GoodIn wsX6_bestZone wsX6_isLane := goodIn_r _ [7, 8, 9, 10, 6, 11, 12, 1, 13, 14, 15, 16, 17, 18, 218, 219, 220, 221, 222, 223, 224, 225, 226, 227, 228, 229, 230, 231, 232, 233, 234, 235, 236, 237] (by decide +kernel) (by decide +kernel)
set_option maxRecDepth 20000 in
theorem gX6_bestZone_X6_isLane : GoodIn wsX6_bestZone (wsV RX6 167 RX6 yX6_isLane wsX6_isLane) := goodIn_app (goodIn_of _ (by decide +kernel)) ggX6_bestZone_X6_isLane
theorem dX6_bestZone_0 : decode cX6_bestZone 0 = .ok (.aload_n 0, 1) := by decide +kernel
theorem dX6_bestZone_1 : decode cX6_bestZone 1 = .ok (.iload_n 1, 1) := by decide +kernel
theorem dX6_bestZone_2 : decode cX6_bestZone 2 = .ok (.iload_n 2, 1) := by decide +kernel
theorem dX6_bestZone_3 : decode cX6_bestZone 3 = .ok (.invokevirtual 167, 3) := by decide +kernel
theorem dX6_bestZone_6 : decode cX6_bestZone 6 = .ok (.ifCond .eq 13, 3) := by decide +kernel
theorem dX6_bestZone_19 : decode cX6_bestZone 19 = .ok (.iconst (-1), 1) := by decide +kernel
theorem dX6_bestZone_20 : decode cX6_bestZone 20 = .ok (.ireturn, 1) := by decide +kernel
theorem dX6_bears_0 : decode cX6_bears 0 = .ok (.aload_n 0, 1) := by decide +kernel
theorem dX6_bears_1 : decode cX6_bears 1 = .ok (.getfield 70, 3) := by decide +kernel
theorem dX6_bears_4 : decode cX6_bears 4 = .ok (.ifCond .eq 14, 3) := by decide +kernel
theorem dX6_bears_18 : decode cX6_bears 18 = .ok (.iconst (-1), 1) := by decide +kernel
theorem dX6_bears_19 : decode cX6_bears 19 = .ok (.ireturn, 1) := by decide +kernel
set_option maxRecDepth 20000 in
theorem ggX6_waits_X6_isLane : GoodIn wsX6_waits wsX6_isLane := goodIn_r _ [6, 7, 8, 9, 5, 10, 11, 12, 13, 14, 15, 16, 17, 18, 202, 203, 204, 205, 206, 207, 208, 209, 210, 211, 212, 213, 214, 215, 216, 217, 218, 219, 220, 221] (by decide +kernel) (by decide +kernel)
set_option maxRecDepth 20000 in
theorem gX6_waits_X6_isLane : GoodIn wsX6_waits (wsV RX6 167 RX6 yX6_isLane wsX6_isLane) := goodIn_app (goodIn_of _ (by decide +kernel)) ggX6_waits_X6_isLane
theorem dX6_waits_0 : decode cX6_waits 0 = .ok (.aload_n 0, 1) := by decide +kernel
theorem dX6_waits_1 : decode cX6_waits 1 = .ok (.iload_n 1, 1) := by decide +kernel
theorem dX6_waits_2 : decode cX6_waits 2 = .ok (.iload_n 2, 1) := by decide +kernel
theorem dX6_waits_3 : decode cX6_waits 3 = .ok (.invokevirtual 167, 3) := by decide +kernel
theorem dX6_waits_6 : decode cX6_waits 6 = .ok (.ifCond .eq 14, 3) := by decide +kernel
theorem dX6_waits_20 : decode cX6_waits 20 = .ok (.iconst (-1), 1) := by decide +kernel
theorem dX6_waits_21 : decode cX6_waits 21 = .ok (.ireturn, 1) := by decide +kernel
set_option maxRecDepth 20000 in
theorem ggX6_worst_X6_isCircuit : GoodIn wsX6_worst wsX6_isCircuit := goodIn_r _ [8, 9, 1, 10, 194, 195, 196, 197, 198, 199, 200, 201, 202, 203, 204, 205, 206, 207, 208, 209, 210, 211, 212, 213] (by decide +kernel) (by decide +kernel)
set_option maxRecDepth 20000 in
theorem gX6_worst_X6_isCircuit : GoodIn wsX6_worst (wsV RX6 135 RX6 yX6_isCircuit wsX6_isCircuit) := goodIn_app (goodIn_of _ (by decide +kernel)) ggX6_worst_X6_isCircuit
theorem dX6_worst_0 : decode cX6_worst 0 = .ok (.aload_n 0, 1) := by decide +kernel
theorem dX6_worst_1 : decode cX6_worst 1 = .ok (.iload_n 1, 1) := by decide +kernel
theorem dX6_worst_2 : decode cX6_worst 2 = .ok (.invokevirtual 135, 3) := by decide +kernel
theorem dX6_worst_5 : decode cX6_worst 5 = .ok (.ifCond .eq 14, 3) := by decide +kernel
theorem dX6_worst_19 : decode cX6_worst 19 = .ok (.iconst (-1), 1) := by decide +kernel
theorem dX6_worst_20 : decode cX6_worst 20 = .ok (.ireturn, 1) := by decide +kernel
theorem dX6_busiest_0 : decode cX6_busiest 0 = .ok (.aload_n 0, 1) := by decide +kernel
theorem dX6_busiest_1 : decode cX6_busiest 1 = .ok (.getfield 70, 3) := by decide +kernel
theorem dX6_busiest_4 : decode cX6_busiest 4 = .ok (.ifCond .eq 14, 3) := by decide +kernel
theorem dX6_busiest_18 : decode cX6_busiest 18 = .ok (.iconst (-1), 1) := by decide +kernel
theorem dX6_busiest_19 : decode cX6_busiest 19 = .ok (.ireturn, 1) := by decide +kernel
set_option maxRecDepth 20000 in
theorem ggX6_alone_X6_outside : GoodIn wsX6_alone wsX6_outside := goodIn_r _ [4] (by decide +kernel) (by decide +kernel)
set_option maxRecDepth 20000 in
theorem gX6_alone_X6_outside : GoodIn wsX6_alone (va_wsS RX6 55 yX6_outside wsX6_outside) := goodIn_app (goodIn_of _ (by decide +kernel)) ggX6_alone_X6_outside
set_option maxRecDepth 20000 in
theorem ggX6_alone_X6_isNoLink : GoodIn wsX6_alone wsX6_isNoLink := goodIn_r _ [7, 1, 2, 3, 4] (by decide +kernel) (by decide +kernel)
set_option maxRecDepth 20000 in
theorem gX6_alone_X6_isNoLink : GoodIn wsX6_alone (va_wsS RX6 331 yX6_isNoLink wsX6_isNoLink) := goodIn_app (goodIn_of _ (by decide +kernel)) ggX6_alone_X6_isNoLink
set_option maxRecDepth 20000 in
theorem ggX6_alone_X6_sentAlone : GoodIn wsX6_alone wsX6_sentAlone := goodIn_r _ [11, 12, 13, 14, 15, 16, 17, 18, 19, 20, 21, 22, 23, 24, 25, 26, 27, 28, 29, 30, 31, 32, 33, 34, 35, 36, 37, 38, 39, 40, 41, 42, 43, 44, 45, 46, 47, 48, 49, 50, 51, 52, 53, 54, 55, 56, 57, 58, 59, 60, 61, 62, 63, 64, 65, 66, 67, 68, 69, 70, 71, 72, 73, 74, 75, 76, 77, 78, 79, 80, 81, 82, 83, 84, 85, 86, 87, 88, 89, 90, 91, 92, 93, 94, 95, 96, 97, 98, 99, 100, 3, 101, 102, 103, 104, 105, 106, 107, 108, 109, 110, 111, 112, 113, 114, 115, 116, 117, 118, 119, 120, 121, 122, 123, 124, 125, 126, 127, 128, 129, 130, 131, 132, 133, 134, 135, 136, 137, 138, 139, 140, 141, 142, 143, 144, 145, 146, 147, 148, 149, 150, 151, 152, 153, 154, 155, 156, 157, 158, 159, 160, 161, 162, 163, 164, 165, 166, 167, 168, 169, 170, 171, 172, 173, 174, 175, 176, 177, 178, 179, 180, 181, 182, 183, 184, 185, 186, 187, 188, 189, 190, 191, 192, 193, 194, 195, 196, 197, 198, 199, 200, 201, 202, 203, 204, 205, 206, 207, 208, 209, 210, 211, 212, 213, 214, 215, 216, 217, 218, 219, 220, 221, 222, 223, 224, 225, 226, 227, 228, 229, 230, 231, 232, 233, 234] (by decide +kernel) (by decide +kernel)
set_option maxRecDepth 20000 in
theorem gX6_alone_X6_sentAlone : GoodIn wsX6_alone (wsV RX6 335 RX6 yX6_sentAlone wsX6_sentAlone) := goodIn_app (goodIn_of _ (by decide +kernel)) ggX6_alone_X6_sentAlone
theorem dX6_alone_0 : decode cX6_alone 0 = .ok (.iload_n 3, 1) := by decide +kernel
theorem dX6_alone_1 : decode cX6_alone 1 = .ok (.iconst 1, 1) := by decide +kernel
theorem dX6_alone_2 : decode cX6_alone 2 = .ok (.bipush 30, 2) := by decide +kernel
theorem dX6_alone_4 : decode cX6_alone 4 = .ok (.invokestatic 55, 3) := by decide +kernel
theorem dX6_alone_7 : decode cX6_alone 7 = .ok (.ifCond .ne 15, 3) := by decide +kernel
theorem dX6_alone_10 : decode cX6_alone 10 = .ok (.iload_n 1, 1) := by decide +kernel
theorem dX6_alone_11 : decode cX6_alone 11 = .ok (.iload_n 2, 1) := by decide +kernel
theorem dX6_alone_12 : decode cX6_alone 12 = .ok (.iload 4, 2) := by decide +kernel
theorem dX6_alone_14 : decode cX6_alone 14 = .ok (.iload 5, 2) := by decide +kernel
theorem dX6_alone_16 : decode cX6_alone 16 = .ok (.invokestatic 331, 3) := by decide +kernel
theorem dX6_alone_19 : decode cX6_alone 19 = .ok (.ifCond .eq 5, 3) := by decide +kernel
theorem dX6_alone_22 : decode cX6_alone 22 = .ok (.iconst (-1), 1) := by decide +kernel
theorem dX6_alone_23 : decode cX6_alone 23 = .ok (.ireturn, 1) := by decide +kernel
theorem dX6_alone_24 : decode cX6_alone 24 = .ok (.aload_n 0, 1) := by decide +kernel
theorem dX6_alone_25 : decode cX6_alone 25 = .ok (.iload_n 1, 1) := by decide +kernel
theorem dX6_alone_26 : decode cX6_alone 26 = .ok (.iload_n 2, 1) := by decide +kernel
theorem dX6_alone_27 : decode cX6_alone 27 = .ok (.iload_n 3, 1) := by decide +kernel
theorem dX6_alone_28 : decode cX6_alone 28 = .ok (.iload 4, 2) := by decide +kernel
theorem dX6_alone_30 : decode cX6_alone 30 = .ok (.iload 5, 2) := by decide +kernel
theorem dX6_alone_32 : decode cX6_alone 32 = .ok (.invokevirtual 335, 3) := by decide +kernel
theorem dX6_alone_35 : decode cX6_alone 35 = .ok (.ireturn, 1) := by decide +kernel
set_option maxRecDepth 20000 in
theorem ggX6_isNoLink_X6_outside : GoodIn wsX6_isNoLink wsX6_outside := goodIn_r _ [4] (by decide +kernel) (by decide +kernel)
set_option maxRecDepth 20000 in
theorem gX6_isNoLink_X6_outside : GoodIn wsX6_isNoLink (va_wsS RX6 55 yX6_outside wsX6_outside) := goodIn_app (goodIn_of _ (by decide +kernel)) ggX6_isNoLink_X6_outside
theorem dX6_isNoLink_0 : decode cX6_isNoLink 0 = .ok (.iload_n 0, 1) := by decide +kernel
theorem dX6_isNoLink_1 : decode cX6_isNoLink 1 = .ok (.iconst 1, 1) := by decide +kernel
theorem dX6_isNoLink_2 : decode cX6_isNoLink 2 = .ok (.iconst 4, 1) := by decide +kernel
theorem dX6_isNoLink_3 : decode cX6_isNoLink 3 = .ok (.invokestatic 55, 3) := by decide +kernel
theorem dX6_isNoLink_6 : decode cX6_isNoLink 6 = .ok (.ifCond .ne 33, 3) := by decide +kernel
theorem dX6_isNoLink_9 : decode cX6_isNoLink 9 = .ok (.iload_n 1, 1) := by decide +kernel
theorem dX6_isNoLink_10 : decode cX6_isNoLink 10 = .ok (.iconst 1, 1) := by decide +kernel
theorem dX6_isNoLink_11 : decode cX6_isNoLink 11 = .ok (.iconst 4, 1) := by decide +kernel
theorem dX6_isNoLink_12 : decode cX6_isNoLink 12 = .ok (.invokestatic 55, 3) := by decide +kernel
theorem dX6_isNoLink_15 : decode cX6_isNoLink 15 = .ok (.ifCond .ne 24, 3) := by decide +kernel
theorem dX6_isNoLink_18 : decode cX6_isNoLink 18 = .ok (.iload_n 2, 1) := by decide +kernel
theorem dX6_isNoLink_19 : decode cX6_isNoLink 19 = .ok (.iconst 1, 1) := by decide +kernel
theorem dX6_isNoLink_20 : decode cX6_isNoLink 20 = .ok (.bipush 9, 2) := by decide +kernel
theorem dX6_isNoLink_22 : decode cX6_isNoLink 22 = .ok (.invokestatic 55, 3) := by decide +kernel
theorem dX6_isNoLink_25 : decode cX6_isNoLink 25 = .ok (.ifCond .ne 14, 3) := by decide +kernel
theorem dX6_isNoLink_28 : decode cX6_isNoLink 28 = .ok (.iload_n 3, 1) := by decide +kernel
theorem dX6_isNoLink_29 : decode cX6_isNoLink 29 = .ok (.iconst 1, 1) := by decide +kernel
theorem dX6_isNoLink_30 : decode cX6_isNoLink 30 = .ok (.sipush 200, 3) := by decide +kernel
theorem dX6_isNoLink_33 : decode cX6_isNoLink 33 = .ok (.invokestatic 55, 3) := by decide +kernel
theorem dX6_isNoLink_36 : decode cX6_isNoLink 36 = .ok (.ifCond .eq 7, 3) := by decide +kernel
theorem dX6_isNoLink_39 : decode cX6_isNoLink 39 = .ok (.iconst 1, 1) := by decide +kernel
theorem dX6_isNoLink_40 : decode cX6_isNoLink 40 = .ok (.goto 4, 3) := by decide +kernel
theorem dX6_isNoLink_43 : decode cX6_isNoLink 43 = .ok (.iconst 0, 1) := by decide +kernel
theorem dX6_isNoLink_44 : decode cX6_isNoLink 44 = .ok (.ireturn, 1) := by decide +kernel
set_option maxRecDepth 20000 in
theorem ggX6_sentAlone_X3_layAlone : GoodIn wsX6_sentAlone wsX3_layAlone := goodIn_r _ [9, 10, 11, 12, 13, 14, 15, 8, 16, 17, 18, 19, 20, 21, 22, 23, 24, 25, 26, 27, 28, 29, 30, 31, 32, 33, 34, 35, 36, 37, 38, 39, 40, 41, 42, 43, 44, 45, 46, 47, 48, 49, 50, 51, 52, 53, 54, 55, 56, 57, 58, 59, 60, 61, 62, 63, 64, 65, 66, 67, 68, 189, 190, 191, 192, 193, 194, 195, 196, 197, 198, 199, 200, 201, 202, 203, 204, 205, 206, 207, 208, 209, 210, 211, 212, 213, 214, 215, 216, 217, 218, 219, 220, 221, 222, 223, 224] (by decide +kernel) (by decide +kernel)
set_option maxRecDepth 20000 in
theorem gX6_sentAlone_X3_layAlone : GoodIn wsX6_sentAlone (wsV RX6 339 RX3 yX3_layAlone wsX3_layAlone) := goodIn_app (goodIn_of _ (by decide +kernel)) ggX6_sentAlone_X3_layAlone
set_option maxRecDepth 20000 in
theorem ggX6_sentAlone_X3_steps : GoodIn wsX6_sentAlone wsX3_steps := goodIn_r _ [72, 73, 74, 75, 8, 76, 17, 18, 20, 22, 10, 77, 78, 79, 80, 81, 12, 82, 83, 84, 85, 86, 87, 47, 88, 51, 89, 90, 91, 92, 93, 94, 95, 96, 23, 97, 98, 99, 38, 39, 28, 40, 41, 42, 43, 100, 101, 102, 103, 11, 104, 105, 106, 107, 108, 109, 59, 110, 61, 62, 111, 112, 113, 114, 115, 116, 117, 118, 119, 120, 63, 121, 122, 123, 124, 125, 126, 127, 128, 129, 130, 131, 132, 133, 134, 135, 136, 137, 138, 139, 140, 141, 142, 143, 49, 144, 145, 146, 147, 148, 21, 149, 150, 151, 152, 153, 154, 155, 156, 24, 157, 158, 159, 160, 161, 162, 163, 164, 165, 166, 167, 168, 169, 170, 171, 172, 19, 173, 174, 175, 176, 31, 36, 177, 178, 179, 189, 190, 191, 192, 193, 194, 195, 196, 197, 198, 199, 200, 201, 202, 203, 204, 205, 206, 207, 208, 209, 210, 211, 212, 213, 214, 215, 216, 217, 218, 219, 220, 221, 222, 223, 224] (by decide +kernel) (by decide +kernel)
set_option maxRecDepth 20000 in
theorem gX6_sentAlone_X3_steps : GoodIn wsX6_sentAlone (wsV RX6 274 RX3 yX3_steps wsX3_steps) := goodIn_app (goodIn_of _ (by decide +kernel)) ggX6_sentAlone_X3_steps
theorem dX6_sentAlone_0 : decode cX6_sentAlone 0 = .ok (.aload_n 0, 1) := by decide +kernel
theorem dX6_sentAlone_1 : decode cX6_sentAlone 1 = .ok (.getfield 30, 3) := by decide +kernel
theorem dX6_sentAlone_4 : decode cX6_sentAlone 4 = .ok (.iload_n 1, 1) := by decide +kernel
theorem dX6_sentAlone_5 : decode cX6_sentAlone 5 = .ok (.iload_n 2, 1) := by decide +kernel
theorem dX6_sentAlone_6 : decode cX6_sentAlone 6 = .ok (.iload_n 3, 1) := by decide +kernel
theorem dX6_sentAlone_7 : decode cX6_sentAlone 7 = .ok (.iload 4, 2) := by decide +kernel
theorem dX6_sentAlone_9 : decode cX6_sentAlone 9 = .ok (.invokevirtual 339, 3) := by decide +kernel
theorem dX6_sentAlone_12 : decode cX6_sentAlone 12 = .ok (.aload_n 0, 1) := by decide +kernel
theorem dX6_sentAlone_13 : decode cX6_sentAlone 13 = .ok (.getfield 30, 3) := by decide +kernel
theorem dX6_sentAlone_16 : decode cX6_sentAlone 16 = .ok (.iload 5, 2) := by decide +kernel
theorem dX6_sentAlone_18 : decode cX6_sentAlone 18 = .ok (.invokevirtual 274, 3) := by decide +kernel
theorem dX6_sentAlone_21 : decode cX6_sentAlone 21 = .ok (.aload_n 0, 1) := by decide +kernel
theorem dX6_sentAlone_22 : decode cX6_sentAlone 22 = .ok (.getfield 30, 3) := by decide +kernel
theorem dX6_sentAlone_25 : decode cX6_sentAlone 25 = .ok (.getfield 104, 3) := by decide +kernel
theorem dX6_sentAlone_28 : decode cX6_sentAlone 28 = .ok (.iconst 0, 1) := by decide +kernel
theorem dX6_sentAlone_29 : decode cX6_sentAlone 29 = .ok (.aaload, 1) := by decide +kernel
theorem dX6_sentAlone_30 : decode cX6_sentAlone 30 = .ok (.getfield 175, 3) := by decide +kernel
theorem dX6_sentAlone_33 : decode cX6_sentAlone 33 = .ok (.iconst 0, 1) := by decide +kernel
theorem dX6_sentAlone_34 : decode cX6_sentAlone 34 = .ok (.aaload, 1) := by decide +kernel
theorem dX6_sentAlone_35 : decode cX6_sentAlone 35 = .ok (.getfield 205, 3) := by decide +kernel
theorem dX6_sentAlone_38 : decode cX6_sentAlone 38 = .ok (.ireturn, 1) := by decide +kernel
set_option maxRecDepth 20000 in
theorem ggX6_full_X6_isNoLink : GoodIn wsX6_full wsX6_isNoLink := goodIn_r _ [4, 5, 6, 3, 7] (by decide +kernel) (by decide +kernel)
set_option maxRecDepth 20000 in
theorem gX6_full_X6_isNoLink : GoodIn wsX6_full (va_wsS RX6 331 yX6_isNoLink wsX6_isNoLink) := goodIn_app (goodIn_of _ (by decide +kernel)) ggX6_full_X6_isNoLink
set_option maxRecDepth 20000 in
theorem ggX6_full_X6_sentAlone : GoodIn wsX6_full wsX6_sentAlone := goodIn_r _ [11, 12, 13, 14, 15, 16, 17, 18, 19, 20, 21, 22, 23, 24, 25, 26, 27, 28, 29, 30, 31, 32, 33, 34, 35, 36, 37, 38, 39, 40, 41, 42, 43, 44, 45, 46, 47, 48, 49, 50, 51, 52, 53, 54, 55, 56, 57, 58, 59, 60, 61, 62, 63, 64, 65, 66, 67, 68, 69, 70, 71, 72, 73, 74, 75, 76, 77, 78, 79, 80, 81, 82, 83, 84, 85, 86, 87, 88, 89, 90, 91, 92, 93, 94, 95, 96, 97, 98, 99, 100, 3, 101, 102, 103, 104, 105, 106, 107, 108, 109, 110, 111, 112, 113, 114, 115, 116, 117, 118, 119, 120, 121, 122, 123, 124, 125, 126, 127, 128, 129, 130, 131, 132, 133, 134, 135, 136, 137, 138, 139, 140, 141, 142, 143, 144, 145, 146, 147, 148, 149, 150, 151, 152, 153, 154, 155, 156, 157, 158, 159, 160, 161, 162, 163, 164, 165, 166, 167, 168, 169, 170, 171, 172, 173, 174, 175, 176, 177, 178, 179, 180, 181, 182, 183, 184, 185, 186, 187, 188, 189, 190, 191, 192, 193, 194, 195, 196, 197, 198, 199, 200, 201, 202, 203, 204, 205, 206, 207, 208, 209, 210, 211, 212, 213, 214, 215, 216, 217, 218, 219, 220, 221, 222, 223, 224, 225, 226, 227, 228, 229, 230, 231, 232, 233, 234] (by decide +kernel) (by decide +kernel)
set_option maxRecDepth 20000 in
theorem gX6_full_X6_sentAlone : GoodIn wsX6_full (wsV RX6 335 RX6 yX6_sentAlone wsX6_sentAlone) := goodIn_app (goodIn_of _ (by decide +kernel)) ggX6_full_X6_sentAlone
theorem dX6_full_0 : decode cX6_full 0 = .ok (.iload_n 1, 1) := by decide +kernel
theorem dX6_full_1 : decode cX6_full 1 = .ok (.iload_n 2, 1) := by decide +kernel
theorem dX6_full_2 : decode cX6_full 2 = .ok (.iload_n 3, 1) := by decide +kernel
theorem dX6_full_3 : decode cX6_full 3 = .ok (.iload 4, 2) := by decide +kernel
theorem dX6_full_5 : decode cX6_full 5 = .ok (.invokestatic 331, 3) := by decide +kernel
theorem dX6_full_8 : decode cX6_full 8 = .ok (.ifCond .eq 5, 3) := by decide +kernel
theorem dX6_full_11 : decode cX6_full 11 = .ok (.iconst (-1), 1) := by decide +kernel
theorem dX6_full_12 : decode cX6_full 12 = .ok (.ireturn, 1) := by decide +kernel
theorem dX6_full_13 : decode cX6_full 13 = .ok (.aload_n 0, 1) := by decide +kernel
theorem dX6_full_14 : decode cX6_full 14 = .ok (.iload_n 1, 1) := by decide +kernel
theorem dX6_full_15 : decode cX6_full 15 = .ok (.iload_n 2, 1) := by decide +kernel
theorem dX6_full_16 : decode cX6_full 16 = .ok (.bipush 30, 2) := by decide +kernel
theorem dX6_full_18 : decode cX6_full 18 = .ok (.iload_n 3, 1) := by decide +kernel
theorem dX6_full_19 : decode cX6_full 19 = .ok (.iload 4, 2) := by decide +kernel
theorem dX6_full_21 : decode cX6_full 21 = .ok (.invokevirtual 335, 3) := by decide +kernel
theorem dX6_full_24 : decode cX6_full 24 = .ok (.istore 5, 2) := by decide +kernel
theorem dX6_full_26 : decode cX6_full 26 = .ok (.iconst 1, 1) := by decide +kernel
theorem dX6_full_27 : decode cX6_full 27 = .ok (.istore 6, 2) := by decide +kernel
theorem dX6_full_29 : decode cX6_full 29 = .ok (.iload 6, 2) := by decide +kernel
theorem dX6_full_31 : decode cX6_full 31 = .ok (.bipush 30, 2) := by decide +kernel
theorem dX6_full_33 : decode cX6_full 33 = .ok (.if_icmp .ge 28, 3) := by decide +kernel
theorem dX6_full_36 : decode cX6_full 36 = .ok (.aload_n 0, 1) := by decide +kernel
theorem dX6_full_37 : decode cX6_full 37 = .ok (.iload_n 1, 1) := by decide +kernel
theorem dX6_full_38 : decode cX6_full 38 = .ok (.iload_n 2, 1) := by decide +kernel
theorem dX6_full_39 : decode cX6_full 39 = .ok (.iload 6, 2) := by decide +kernel
theorem dX6_full_41 : decode cX6_full 41 = .ok (.iload_n 3, 1) := by decide +kernel
theorem dX6_full_42 : decode cX6_full 42 = .ok (.iload 4, 2) := by decide +kernel
theorem dX6_full_44 : decode cX6_full 44 = .ok (.invokevirtual 335, 3) := by decide +kernel
theorem dX6_full_47 : decode cX6_full 47 = .ok (.iload 5, 2) := by decide +kernel
theorem dX6_full_49 : decode cX6_full 49 = .ok (.if_icmp .ne 6, 3) := by decide +kernel
theorem dX6_full_52 : decode cX6_full 52 = .ok (.iload 6, 2) := by decide +kernel
theorem dX6_full_54 : decode cX6_full 54 = .ok (.ireturn, 1) := by decide +kernel
theorem dX6_full_55 : decode cX6_full 55 = .ok (.iinc 6 1, 3) := by decide +kernel
theorem dX6_full_58 : decode cX6_full 58 = .ok (.goto (-29), 3) := by decide +kernel
theorem dX6_full_61 : decode cX6_full 61 = .ok (.bipush 30, 2) := by decide +kernel
theorem dX6_full_63 : decode cX6_full 63 = .ok (.ireturn, 1) := by decide +kernel
set_option maxRecDepth 20000 in
theorem ggX6_law_X6_outside : GoodIn wsX6_law wsX6_outside := goodIn_r _ [4] (by decide +kernel) (by decide +kernel)
set_option maxRecDepth 20000 in
theorem gX6_law_X6_outside : GoodIn wsX6_law (va_wsS RX6 55 yX6_outside wsX6_outside) := goodIn_app (goodIn_of _ (by decide +kernel)) ggX6_law_X6_outside
theorem dX6_law_0 : decode cX6_law 0 = .ok (.iload_n 1, 1) := by decide +kernel
theorem dX6_law_1 : decode cX6_law 1 = .ok (.iconst 1, 1) := by decide +kernel
theorem dX6_law_2 : decode cX6_law 2 = .ok (.iconst 4, 1) := by decide +kernel
theorem dX6_law_3 : decode cX6_law 3 = .ok (.invokestatic 55, 3) := by decide +kernel
theorem dX6_law_6 : decode cX6_law 6 = .ok (.ifCond .ne 22, 3) := by decide +kernel
theorem dX6_law_9 : decode cX6_law 9 = .ok (.iload_n 2, 1) := by decide +kernel
theorem dX6_law_10 : decode cX6_law 10 = .ok (.iconst 1, 1) := by decide +kernel
theorem dX6_law_11 : decode cX6_law 11 = .ok (.iconst 4, 1) := by decide +kernel
theorem dX6_law_12 : decode cX6_law 12 = .ok (.invokestatic 55, 3) := by decide +kernel
theorem dX6_law_15 : decode cX6_law 15 = .ok (.ifCond .ne 13, 3) := by decide +kernel
theorem dX6_law_18 : decode cX6_law 18 = .ok (.iload_n 3, 1) := by decide +kernel
theorem dX6_law_19 : decode cX6_law 19 = .ok (.iconst 1, 1) := by decide +kernel
theorem dX6_law_20 : decode cX6_law 20 = .ok (.bipush 9, 2) := by decide +kernel
theorem dX6_law_22 : decode cX6_law 22 = .ok (.invokestatic 55, 3) := by decide +kernel
theorem dX6_law_25 : decode cX6_law 25 = .ok (.ifCond .eq 5, 3) := by decide +kernel
theorem dX6_law_28 : decode cX6_law 28 = .ok (.iconst (-1), 1) := by decide +kernel
theorem dX6_law_29 : decode cX6_law 29 = .ok (.ireturn, 1) := by decide +kernel
theorem dX6_law_30 : decode cX6_law 30 = .ok (.iconst 2, 1) := by decide +kernel
theorem dX6_law_31 : decode cX6_law 31 = .ok (.iload_n 1, 1) := by decide +kernel
theorem dX6_law_32 : decode cX6_law 32 = .ok (.imul, 1) := by decide +kernel
theorem dX6_law_33 : decode cX6_law 33 = .ok (.iload_n 3, 1) := by decide +kernel
theorem dX6_law_34 : decode cX6_law 34 = .ok (.iadd, 1) := by decide +kernel
theorem dX6_law_35 : decode cX6_law 35 = .ok (.iconst 1, 1) := by decide +kernel
theorem dX6_law_36 : decode cX6_law 36 = .ok (.isub, 1) := by decide +kernel
theorem dX6_law_37 : decode cX6_law 37 = .ok (.iload_n 3, 1) := by decide +kernel
theorem dX6_law_38 : decode cX6_law 38 = .ok (.idiv, 1) := by decide +kernel
theorem dX6_law_39 : decode cX6_law 39 = .ok (.iload_n 2, 1) := by decide +kernel
theorem dX6_law_40 : decode cX6_law 40 = .ok (.iadd, 1) := by decide +kernel
theorem dX6_law_41 : decode cX6_law 41 = .ok (.iconst 1, 1) := by decide +kernel
theorem dX6_law_42 : decode cX6_law 42 = .ok (.isub, 1) := by decide +kernel
theorem dX6_law_43 : decode cX6_law 43 = .ok (.ireturn, 1) := by decide +kernel
set_option maxRecDepth 20000 in
theorem ggX6_aim_X6_isLane : GoodIn wsX6_aim wsX6_isLane := goodIn_r _ [7, 8, 9, 10, 6, 11, 12, 1, 13, 14, 15, 16, 17, 18, 29, 30, 31, 32, 33, 34, 35, 36, 37, 38, 39, 40, 41, 42, 43, 44, 45, 46, 47, 48] (by decide +kernel) (by decide +kernel)
set_option maxRecDepth 20000 in
theorem gX6_aim_X6_isLane : GoodIn wsX6_aim (wsV RX6 167 RX6 yX6_isLane wsX6_isLane) := goodIn_app (goodIn_of _ (by decide +kernel)) ggX6_aim_X6_isLane
theorem dX6_aim_0 : decode cX6_aim 0 = .ok (.aload_n 0, 1) := by decide +kernel
theorem dX6_aim_1 : decode cX6_aim 1 = .ok (.iload_n 1, 1) := by decide +kernel
theorem dX6_aim_2 : decode cX6_aim 2 = .ok (.iload_n 2, 1) := by decide +kernel
theorem dX6_aim_3 : decode cX6_aim 3 = .ok (.invokevirtual 167, 3) := by decide +kernel
theorem dX6_aim_6 : decode cX6_aim 6 = .ok (.ifCond .eq 23, 3) := by decide +kernel
theorem dX6_aim_29 : decode cX6_aim 29 = .ok (.iconst (-1), 1) := by decide +kernel
theorem dX6_aim_30 : decode cX6_aim 30 = .ok (.ireturn, 1) := by decide +kernel
set_option maxRecDepth 20000 in
theorem ggX6_room_X6_isLane : GoodIn wsX6_room wsX6_isLane := goodIn_r _ [5, 6, 7, 8, 4, 9, 10, 11, 12, 13, 14, 15, 16, 17, 45, 46, 47, 48, 49, 50, 51, 52, 53, 54, 55, 56, 57, 58, 59, 60, 61, 62, 63, 64] (by decide +kernel) (by decide +kernel)
set_option maxRecDepth 20000 in
theorem gX6_room_X6_isLane : GoodIn wsX6_room (wsV RX6 167 RX6 yX6_isLane wsX6_isLane) := goodIn_app (goodIn_of _ (by decide +kernel)) ggX6_room_X6_isLane
theorem dX6_room_0 : decode cX6_room 0 = .ok (.aload_n 0, 1) := by decide +kernel
theorem dX6_room_1 : decode cX6_room 1 = .ok (.iload_n 1, 1) := by decide +kernel
theorem dX6_room_2 : decode cX6_room 2 = .ok (.iload_n 2, 1) := by decide +kernel
theorem dX6_room_3 : decode cX6_room 3 = .ok (.invokevirtual 167, 3) := by decide +kernel
theorem dX6_room_6 : decode cX6_room 6 = .ok (.ifCond .eq 12, 3) := by decide +kernel
theorem dX6_room_18 : decode cX6_room 18 = .ok (.iconst (-1), 1) := by decide +kernel
theorem dX6_room_19 : decode cX6_room 19 = .ok (.ireturn, 1) := by decide +kernel
set_option maxRecDepth 20000 in
theorem ggX6_trip_X6_isCircuit : GoodIn wsX6_trip wsX6_isCircuit := goodIn_r _ [12, 13, 1, 14, 15, 16, 17, 18, 19, 20, 21, 22, 23, 24, 25, 26, 27, 28, 29, 30, 31, 32, 33, 34] (by decide +kernel) (by decide +kernel)
set_option maxRecDepth 20000 in
theorem gX6_trip_X6_isCircuit : GoodIn wsX6_trip (wsV RX6 135 RX6 yX6_isCircuit wsX6_isCircuit) := goodIn_app (goodIn_of _ (by decide +kernel)) ggX6_trip_X6_isCircuit
theorem dX6_trip_0 : decode cX6_trip 0 = .ok (.aload_n 0, 1) := by decide +kernel
theorem dX6_trip_1 : decode cX6_trip 1 = .ok (.iload_n 1, 1) := by decide +kernel
theorem dX6_trip_2 : decode cX6_trip 2 = .ok (.invokevirtual 135, 3) := by decide +kernel
theorem dX6_trip_5 : decode cX6_trip 5 = .ok (.ifCond .eq 18, 3) := by decide +kernel
theorem dX6_trip_23 : decode cX6_trip 23 = .ok (.iconst (-1), 1) := by decide +kernel
theorem dX6_trip_24 : decode cX6_trip 24 = .ok (.ireturn, 1) := by decide +kernel
set_option maxRecDepth 20000 in
theorem ggX6_oldest_X6_isCircuit : GoodIn wsX6_oldest wsX6_isCircuit := goodIn_r _ [9, 10, 3, 11, 19, 20, 21, 22, 23, 24, 25, 26, 27, 34, 35, 36, 37, 38, 39, 40, 41, 42, 43, 44] (by decide +kernel) (by decide +kernel)
set_option maxRecDepth 20000 in
theorem gX6_oldest_X6_isCircuit : GoodIn wsX6_oldest (wsV RX6 135 RX6 yX6_isCircuit wsX6_isCircuit) := goodIn_app (goodIn_of _ (by decide +kernel)) ggX6_oldest_X6_isCircuit
theorem dX6_oldest_0 : decode cX6_oldest 0 = .ok (.aload_n 0, 1) := by decide +kernel
theorem dX6_oldest_1 : decode cX6_oldest 1 = .ok (.iload_n 1, 1) := by decide +kernel
theorem dX6_oldest_2 : decode cX6_oldest 2 = .ok (.invokevirtual 135, 3) := by decide +kernel
theorem dX6_oldest_5 : decode cX6_oldest 5 = .ok (.ifCond .eq 15, 3) := by decide +kernel
theorem dX6_oldest_20 : decode cX6_oldest 20 = .ok (.iconst (-1), 1) := by decide +kernel
theorem dX6_oldest_21 : decode cX6_oldest 21 = .ok (.ireturn, 1) := by decide +kernel
theorem dX6_count_0 : decode cX6_count 0 = .ok (.iload_n 1, 1) := by decide +kernel
theorem dX6_count_1 : decode cX6_count 1 = .ok (.ifCond .ne 8, 3) := by decide +kernel
theorem dX6_count_4 : decode cX6_count 4 = .ok (.aload_n 0, 1) := by decide +kernel
theorem dX6_count_5 : decode cX6_count 5 = .ok (.getfield 47, 3) := by decide +kernel
theorem dX6_count_8 : decode cX6_count 8 = .ok (.ireturn, 1) := by decide +kernel
theorem dX6_count_9 : decode cX6_count 9 = .ok (.aload_n 0, 1) := by decide +kernel
theorem dX6_count_10 : decode cX6_count 10 = .ok (.getfield 70, 3) := by decide +kernel
theorem dX6_count_13 : decode cX6_count 13 = .ok (.ifCond .ne 6, 3) := by decide +kernel
theorem dX6_count_16 : decode cX6_count 16 = .ok (.ldc 77, 2) := by decide +kernel
theorem dX6_count_18 : decode cX6_count 18 = .ok (.ireturn, 1) := by decide +kernel
theorem dX6_outside_0 : decode cX6_outside 0 = .ok (.iload_n 0, 1) := by decide +kernel
theorem dX6_outside_1 : decode cX6_outside 1 = .ok (.iload_n 1, 1) := by decide +kernel
theorem dX6_outside_2 : decode cX6_outside 2 = .ok (.if_icmp .lt 8, 3) := by decide +kernel
theorem dX6_outside_5 : decode cX6_outside 5 = .ok (.iload_n 0, 1) := by decide +kernel
theorem dX6_outside_6 : decode cX6_outside 6 = .ok (.iload_n 2, 1) := by decide +kernel
theorem dX6_outside_7 : decode cX6_outside 7 = .ok (.if_icmp .le 7, 3) := by decide +kernel
theorem dX6_outside_10 : decode cX6_outside 10 = .ok (.iconst 1, 1) := by decide +kernel
theorem dX6_outside_11 : decode cX6_outside 11 = .ok (.goto 4, 3) := by decide +kernel
theorem dX6_outside_14 : decode cX6_outside 14 = .ok (.iconst 0, 1) := by decide +kernel
theorem dX6_outside_15 : decode cX6_outside 15 = .ok (.ireturn, 1) := by decide +kernel
theorem dX6_isHop_0 : decode cX6_isHop 0 = .ok (.aload_n 0, 1) := by decide +kernel
theorem dX6_isHop_1 : decode cX6_isHop 1 = .ok (.getfield 70, 3) := by decide +kernel
theorem dX6_isHop_4 : decode cX6_isHop 4 = .ok (.ifCond .eq 22, 3) := by decide +kernel
theorem dX6_isHop_26 : decode cX6_isHop 26 = .ok (.iconst 0, 1) := by decide +kernel
theorem dX6_isHop_27 : decode cX6_isHop 27 = .ok (.ireturn, 1) := by decide +kernel
theorem dX6_isCircuit_0 : decode cX6_isCircuit 0 = .ok (.aload_n 0, 1) := by decide +kernel
theorem dX6_isCircuit_1 : decode cX6_isCircuit 1 = .ok (.getfield 70, 3) := by decide +kernel
theorem dX6_isCircuit_4 : decode cX6_isCircuit 4 = .ok (.ifCond .eq 22, 3) := by decide +kernel
theorem dX6_isCircuit_26 : decode cX6_isCircuit 26 = .ok (.iconst 0, 1) := by decide +kernel
theorem dX6_isCircuit_27 : decode cX6_isCircuit 27 = .ok (.ireturn, 1) := by decide +kernel
set_option maxRecDepth 20000 in
theorem ggX6_isLane_X6_isHop : GoodIn wsX6_isLane wsX6_isHop := goodIn_r _ [5, 6, 7, 8, 14, 15, 16, 17, 18, 19, 20, 21, 22, 23, 24, 25, 26, 27, 28, 29, 30, 31, 32, 33] (by decide +kernel) (by decide +kernel)
set_option maxRecDepth 20000 in
theorem gX6_isLane_X6_isHop : GoodIn wsX6_isLane (wsV RX6 93 RX6 yX6_isHop wsX6_isHop) := goodIn_app (goodIn_of _ (by decide +kernel)) ggX6_isLane_X6_isHop
theorem dX6_isLane_0 : decode cX6_isLane 0 = .ok (.aload_n 0, 1) := by decide +kernel
theorem dX6_isLane_1 : decode cX6_isLane 1 = .ok (.iload_n 1, 1) := by decide +kernel
theorem dX6_isLane_2 : decode cX6_isLane 2 = .ok (.invokevirtual 93, 3) := by decide +kernel
theorem dX6_isLane_5 : decode cX6_isLane 5 = .ok (.ifCond .eq 15, 3) := by decide +kernel
theorem dX6_isLane_20 : decode cX6_isLane 20 = .ok (.iconst 0, 1) := by decide +kernel
theorem dX6_isLane_21 : decode cX6_isLane 21 = .ok (.ireturn, 1) := by decide +kernel
theorem dX6_isNode_0 : decode cX6_isNode 0 = .ok (.aload_n 0, 1) := by decide +kernel
theorem dX6_isNode_1 : decode cX6_isNode 1 = .ok (.getfield 70, 3) := by decide +kernel
theorem dX6_isNode_4 : decode cX6_isNode 4 = .ok (.ifCond .eq 22, 3) := by decide +kernel
theorem dX6_isNode_26 : decode cX6_isNode 26 = .ok (.iconst 0, 1) := by decide +kernel
theorem dX6_isNode_27 : decode cX6_isNode 27 = .ok (.ireturn, 1) := by decide +kernel
theorem dX7_in_0 : decode cX7_in 0 = .ok (.iload_n 0, 1) := by decide +kernel
theorem dX7_in_1 : decode cX7_in 1 = .ok (.iload_n 1, 1) := by decide +kernel
theorem dX7_in_2 : decode cX7_in 2 = .ok (.if_icmp .lt 12, 3) := by decide +kernel
theorem dX7_in_5 : decode cX7_in 5 = .ok (.iload_n 0, 1) := by decide +kernel
theorem dX7_in_6 : decode cX7_in 6 = .ok (.iload_n 2, 1) := by decide +kernel
theorem dX7_in_7 : decode cX7_in 7 = .ok (.if_icmp .gt 7, 3) := by decide +kernel
theorem dX7_in_10 : decode cX7_in 10 = .ok (.iconst 1, 1) := by decide +kernel
theorem dX7_in_11 : decode cX7_in 11 = .ok (.goto 4, 3) := by decide +kernel
theorem dX7_in_14 : decode cX7_in 14 = .ok (.iconst 0, 1) := by decide +kernel
theorem dX7_in_15 : decode cX7_in 15 = .ok (.ireturn, 1) := by decide +kernel
theorem dX7_init_0 : decode cX7_init 0 = .ok (.aload_n 0, 1) := by decide +kernel
theorem dX7_init_1 : decode cX7_init 1 = .ok (.invokespecial 3, 3) := by decide +kernel
theorem dX7_init_4 : decode cX7_init 4 = .ok (.aload_n 0, 1) := by decide +kernel
theorem dX7_init_5 : decode cX7_init 5 = .ok (.sipush 160, 3) := by decide +kernel
theorem dX7_init_8 : decode cX7_init 8 = .ok (.newarray .int, 2) := by decide +kernel
theorem dX7_init_10 : decode cX7_init 10 = .ok (.putfield 9, 3) := by decide +kernel
theorem dX7_init_13 : decode cX7_init 13 = .ok (.aload_n 0, 1) := by decide +kernel
theorem dX7_init_14 : decode cX7_init 14 = .ok (.iconst 3, 1) := by decide +kernel
theorem dX7_init_15 : decode cX7_init 15 = .ok (.newarray .int, 2) := by decide +kernel
theorem dX7_init_17 : decode cX7_init 17 = .ok (.putfield 13, 3) := by decide +kernel
theorem dX7_init_20 : decode cX7_init 20 = .ok (.aload_n 0, 1) := by decide +kernel
theorem dX7_init_21 : decode cX7_init 21 = .ok (.bipush 9, 2) := by decide +kernel
theorem dX7_init_23 : decode cX7_init 23 = .ok (.newarray .int, 2) := by decide +kernel
theorem dX7_init_25 : decode cX7_init 25 = .ok (.putfield 16, 3) := by decide +kernel
theorem dX7_init_28 : decode cX7_init 28 = .ok (.aload_n 0, 1) := by decide +kernel
theorem dX7_init_29 : decode cX7_init 29 = .ok (.bipush 9, 2) := by decide +kernel
theorem dX7_init_31 : decode cX7_init 31 = .ok (.newarray .int, 2) := by decide +kernel
theorem dX7_init_33 : decode cX7_init 33 = .ok (.putfield 19, 3) := by decide +kernel
theorem dX7_init_36 : decode cX7_init 36 = .ok (.aload_n 0, 1) := by decide +kernel
theorem dX7_init_37 : decode cX7_init 37 = .ok (.sipush 1767, 3) := by decide +kernel
theorem dX7_init_40 : decode cX7_init 40 = .ok (.newarray .int, 2) := by decide +kernel
theorem dX7_init_42 : decode cX7_init 42 = .ok (.putfield 22, 3) := by decide +kernel
theorem dX7_init_45 : decode cX7_init 45 = .ok (.aload_n 0, 1) := by decide +kernel
theorem dX7_init_46 : decode cX7_init 46 = .ok (.iconst 4, 1) := by decide +kernel
theorem dX7_init_47 : decode cX7_init 47 = .ok (.newarray .int, 2) := by decide +kernel
theorem dX7_init_49 : decode cX7_init 49 = .ok (.putfield 25, 3) := by decide +kernel
theorem dX7_init_52 : decode cX7_init 52 = .ok (.aload_n 0, 1) := by decide +kernel
theorem dX7_init_53 : decode cX7_init 53 = .ok (.iconst 3, 1) := by decide +kernel
theorem dX7_init_54 : decode cX7_init 54 = .ok (.newarray .int, 2) := by decide +kernel
theorem dX7_init_56 : decode cX7_init 56 = .ok (.putfield 28, 3) := by decide +kernel
theorem dX7_init_59 : decode cX7_init 59 = .ok (.aload_n 0, 1) := by decide +kernel
theorem dX7_init_60 : decode cX7_init 60 = .ok (.bipush 9, 2) := by decide +kernel
theorem dX7_init_62 : decode cX7_init 62 = .ok (.newarray .int, 2) := by decide +kernel
theorem dX7_init_64 : decode cX7_init 64 = .ok (.putfield 31, 3) := by decide +kernel
theorem dX7_init_67 : decode cX7_init 67 = .ok (.aload_n 0, 1) := by decide +kernel
theorem dX7_init_68 : decode cX7_init 68 = .ok (.iconst 3, 1) := by decide +kernel
theorem dX7_init_69 : decode cX7_init 69 = .ok (.newarray .int, 2) := by decide +kernel
theorem dX7_init_71 : decode cX7_init 71 = .ok (.putfield 34, 3) := by decide +kernel
theorem dX7_init_74 : decode cX7_init 74 = .ok (.aload_n 0, 1) := by decide +kernel
theorem dX7_init_75 : decode cX7_init 75 = .ok (.sipush 1767, 3) := by decide +kernel
theorem dX7_init_78 : decode cX7_init 78 = .ok (.newarray .int, 2) := by decide +kernel
theorem dX7_init_80 : decode cX7_init 80 = .ok (.putfield 37, 3) := by decide +kernel
theorem dX7_init_83 : decode cX7_init 83 = .ok (.aload_n 0, 1) := by decide +kernel
theorem dX7_init_84 : decode cX7_init 84 = .ok (.iconst 3, 1) := by decide +kernel
theorem dX7_init_85 : decode cX7_init 85 = .ok (.newarray .int, 2) := by decide +kernel
theorem dX7_init_87 : decode cX7_init 87 = .ok (.putfield 40, 3) := by decide +kernel
theorem dX7_init_90 : decode cX7_init 90 = .ok (.aload_n 0, 1) := by decide +kernel
theorem dX7_init_91 : decode cX7_init 91 = .ok (.bipush 8, 2) := by decide +kernel
theorem dX7_init_93 : decode cX7_init 93 = .ok (.newarray .int, 2) := by decide +kernel
theorem dX7_init_95 : decode cX7_init 95 = .ok (.putfield 43, 3) := by decide +kernel
theorem dX7_init_98 : decode cX7_init 98 = .ok (.aload_n 0, 1) := by decide +kernel
theorem dX7_init_99 : decode cX7_init 99 = .ok (.bipush 8, 2) := by decide +kernel
theorem dX7_init_101 : decode cX7_init 101 = .ok (.newarray .int, 2) := by decide +kernel
theorem dX7_init_103 : decode cX7_init 103 = .ok (.putfield 46, 3) := by decide +kernel
theorem dX7_init_106 : decode cX7_init 106 = .ok (.return_, 1) := by decide +kernel
theorem dX7_thrown_0 : decode cX7_thrown 0 = .ok (.aload_n 0, 1) := by decide +kernel
theorem dX7_thrown_1 : decode cX7_thrown 1 = .ok (.getfield 49, 3) := by decide +kernel
theorem dX7_thrown_4 : decode cX7_thrown 4 = .ok (.ireturn, 1) := by decide +kernel
theorem dX7_byteOf_0 : decode cX7_byteOf 0 = .ok (.iload 5, 2) := by decide +kernel
theorem dX7_byteOf_2 : decode cX7_byteOf 2 = .ok (.iconst 4, 1) := by decide +kernel
theorem dX7_byteOf_3 : decode cX7_byteOf 3 = .ok (.if_icmp .ge 7, 3) := by decide +kernel
theorem dX7_byteOf_6 : decode cX7_byteOf 6 = .ok (.iload_n 0, 1) := by decide +kernel
theorem dX7_byteOf_7 : decode cX7_byteOf 7 = .ok (.goto 38, 3) := by decide +kernel
theorem dX7_byteOf_10 : decode cX7_byteOf 10 = .ok (.iload 5, 2) := by decide +kernel
theorem dX7_byteOf_12 : decode cX7_byteOf 12 = .ok (.bipush 8, 2) := by decide +kernel
theorem dX7_byteOf_14 : decode cX7_byteOf 14 = .ok (.if_icmp .ge 7, 3) := by decide +kernel
theorem dX7_byteOf_17 : decode cX7_byteOf 17 = .ok (.iload_n 1, 1) := by decide +kernel
theorem dX7_byteOf_18 : decode cX7_byteOf 18 = .ok (.goto 27, 3) := by decide +kernel
theorem dX7_byteOf_21 : decode cX7_byteOf 21 = .ok (.iload 5, 2) := by decide +kernel
theorem dX7_byteOf_23 : decode cX7_byteOf 23 = .ok (.bipush 12, 2) := by decide +kernel
theorem dX7_byteOf_25 : decode cX7_byteOf 25 = .ok (.if_icmp .ge 7, 3) := by decide +kernel
theorem dX7_byteOf_28 : decode cX7_byteOf 28 = .ok (.iload_n 2, 1) := by decide +kernel
theorem dX7_byteOf_29 : decode cX7_byteOf 29 = .ok (.goto 16, 3) := by decide +kernel
theorem dX7_byteOf_32 : decode cX7_byteOf 32 = .ok (.iload 5, 2) := by decide +kernel
theorem dX7_byteOf_34 : decode cX7_byteOf 34 = .ok (.bipush 16, 2) := by decide +kernel
theorem dX7_byteOf_36 : decode cX7_byteOf 36 = .ok (.if_icmp .ge 7, 3) := by decide +kernel
theorem dX7_byteOf_39 : decode cX7_byteOf 39 = .ok (.iload_n 3, 1) := by decide +kernel
theorem dX7_byteOf_40 : decode cX7_byteOf 40 = .ok (.goto 5, 3) := by decide +kernel
theorem dX7_byteOf_43 : decode cX7_byteOf 43 = .ok (.iload 4, 2) := by decide +kernel
theorem dX7_byteOf_45 : decode cX7_byteOf 45 = .ok (.istore 6, 2) := by decide +kernel
theorem dX7_byteOf_47 : decode cX7_byteOf 47 = .ok (.iload 6, 2) := by decide +kernel
theorem dX7_byteOf_49 : decode cX7_byteOf 49 = .ok (.bipush 24, 2) := by decide +kernel
theorem dX7_byteOf_51 : decode cX7_byteOf 51 = .ok (.bipush 8, 2) := by decide +kernel
theorem dX7_byteOf_53 : decode cX7_byteOf 53 = .ok (.iload 5, 2) := by decide +kernel
theorem dX7_byteOf_55 : decode cX7_byteOf 55 = .ok (.iconst 4, 1) := by decide +kernel
theorem dX7_byteOf_56 : decode cX7_byteOf 56 = .ok (.irem, 1) := by decide +kernel
theorem dX7_byteOf_57 : decode cX7_byteOf 57 = .ok (.imul, 1) := by decide +kernel
theorem dX7_byteOf_58 : decode cX7_byteOf 58 = .ok (.isub, 1) := by decide +kernel
theorem dX7_byteOf_59 : decode cX7_byteOf 59 = .ok (.ishr, 1) := by decide +kernel
theorem dX7_byteOf_60 : decode cX7_byteOf 60 = .ok (.sipush 255, 3) := by decide +kernel
theorem dX7_byteOf_63 : decode cX7_byteOf 63 = .ok (.iand, 1) := by decide +kernel
theorem dX7_byteOf_64 : decode cX7_byteOf 64 = .ok (.ireturn, 1) := by decide +kernel
set_option maxRecDepth 20000 in
theorem ggX7_feed_X7_byteOf : GoodIn wsX7_feed wsX7_byteOf := goodIn_r _ [7] (by decide +kernel) (by decide +kernel)
set_option maxRecDepth 20000 in
theorem gX7_feed_X7_byteOf : GoodIn wsX7_feed (va_wsS RX7 53 yX7_byteOf wsX7_byteOf) := goodIn_app (goodIn_of _ (by decide +kernel)) ggX7_feed_X7_byteOf
theorem dX7_feed_0 : decode cX7_feed 0 = .ok (.aload_n 0, 1) := by decide +kernel
theorem dX7_feed_1 : decode cX7_feed 1 = .ok (.iconst 0, 1) := by decide +kernel
theorem dX7_feed_2 : decode cX7_feed 2 = .ok (.putfield 49, 3) := by decide +kernel
theorem dX7_feed_5 : decode cX7_feed 5 = .ok (.iconst 0, 1) := by decide +kernel
theorem dX7_feed_6 : decode cX7_feed 6 = .ok (.istore 6, 2) := by decide +kernel
theorem dX7_feed_8 : decode cX7_feed 8 = .ok (.iconst 0, 1) := by decide +kernel
theorem dX7_feed_9 : decode cX7_feed 9 = .ok (.istore 7, 2) := by decide +kernel
theorem dX7_feed_11 : decode cX7_feed 11 = .ok (.iload 7, 2) := by decide +kernel
theorem dX7_feed_13 : decode cX7_feed 13 = .ok (.bipush 20, 2) := by decide +kernel
theorem dX7_feed_15 : decode cX7_feed 15 = .ok (.if_icmp .ge 34, 3) := by decide +kernel
theorem dX7_feed_18 : decode cX7_feed 18 = .ok (.iload 6, 2) := by decide +kernel
theorem dX7_feed_20 : decode cX7_feed 20 = .ok (.iload_n 1, 1) := by decide +kernel
theorem dX7_feed_21 : decode cX7_feed 21 = .ok (.iload_n 2, 1) := by decide +kernel
theorem dX7_feed_22 : decode cX7_feed 22 = .ok (.iload_n 3, 1) := by decide +kernel
theorem dX7_feed_23 : decode cX7_feed 23 = .ok (.iload 4, 2) := by decide +kernel
theorem dX7_feed_25 : decode cX7_feed 25 = .ok (.iload 5, 2) := by decide +kernel
theorem dX7_feed_27 : decode cX7_feed 27 = .ok (.iload 7, 2) := by decide +kernel
theorem dX7_feed_29 : decode cX7_feed 29 = .ok (.invokestatic 53, 3) := by decide +kernel
theorem dX7_feed_32 : decode cX7_feed 32 = .ok (.ifCond .eq 7, 3) := by decide +kernel
theorem dX7_feed_35 : decode cX7_feed 35 = .ok (.iconst 1, 1) := by decide +kernel
theorem dX7_feed_36 : decode cX7_feed 36 = .ok (.goto 4, 3) := by decide +kernel
theorem dX7_feed_39 : decode cX7_feed 39 = .ok (.iconst 0, 1) := by decide +kernel
theorem dX7_feed_40 : decode cX7_feed 40 = .ok (.iadd, 1) := by decide +kernel
theorem dX7_feed_41 : decode cX7_feed 41 = .ok (.istore 6, 2) := by decide +kernel
theorem dX7_feed_43 : decode cX7_feed 43 = .ok (.iinc 7 1, 3) := by decide +kernel
theorem dX7_feed_46 : decode cX7_feed 46 = .ok (.goto (-35), 3) := by decide +kernel
theorem dX7_feed_49 : decode cX7_feed 49 = .ok (.aload_n 0, 1) := by decide +kernel
theorem dX7_feed_50 : decode cX7_feed 50 = .ok (.getfield 57, 3) := by decide +kernel
theorem dX7_feed_53 : decode cX7_feed 53 = .ok (.iload 6, 2) := by decide +kernel
theorem dX7_feed_55 : decode cX7_feed 55 = .ok (.iadd, 1) := by decide +kernel
theorem dX7_feed_56 : decode cX7_feed 56 = .ok (.sipush 160, 3) := by decide +kernel
theorem dX7_feed_59 : decode cX7_feed 59 = .ok (.if_icmp .le 5, 3) := by decide +kernel
theorem dX7_feed_64 : decode cX7_feed 64 = .ok (.iconst 0, 1) := by decide +kernel
theorem dX7_feed_65 : decode cX7_feed 65 = .ok (.istore 7, 2) := by decide +kernel
theorem dX7_feed_67 : decode cX7_feed 67 = .ok (.iload 7, 2) := by decide +kernel
theorem dX7_feed_69 : decode cX7_feed 69 = .ok (.bipush 20, 2) := by decide +kernel
theorem dX7_feed_71 : decode cX7_feed 71 = .ok (.if_icmp .ge 49, 3) := by decide +kernel
theorem dX7_feed_74 : decode cX7_feed 74 = .ok (.iload_n 1, 1) := by decide +kernel
theorem dX7_feed_75 : decode cX7_feed 75 = .ok (.iload_n 2, 1) := by decide +kernel
theorem dX7_feed_76 : decode cX7_feed 76 = .ok (.iload_n 3, 1) := by decide +kernel
theorem dX7_feed_77 : decode cX7_feed 77 = .ok (.iload 4, 2) := by decide +kernel
theorem dX7_feed_79 : decode cX7_feed 79 = .ok (.iload 5, 2) := by decide +kernel
theorem dX7_feed_81 : decode cX7_feed 81 = .ok (.iload 7, 2) := by decide +kernel
theorem dX7_feed_83 : decode cX7_feed 83 = .ok (.invokestatic 53, 3) := by decide +kernel
theorem dX7_feed_86 : decode cX7_feed 86 = .ok (.istore 8, 2) := by decide +kernel
theorem dX7_feed_88 : decode cX7_feed 88 = .ok (.iload 8, 2) := by decide +kernel
theorem dX7_feed_90 : decode cX7_feed 90 = .ok (.ifCond .eq 24, 3) := by decide +kernel
theorem dX7_feed_93 : decode cX7_feed 93 = .ok (.aload_n 0, 1) := by decide +kernel
theorem dX7_feed_94 : decode cX7_feed 94 = .ok (.getfield 9, 3) := by decide +kernel
theorem dX7_feed_97 : decode cX7_feed 97 = .ok (.aload_n 0, 1) := by decide +kernel
theorem dX7_feed_98 : decode cX7_feed 98 = .ok (.getfield 57, 3) := by decide +kernel
theorem dX7_feed_101 : decode cX7_feed 101 = .ok (.iload 8, 2) := by decide +kernel
theorem dX7_feed_103 : decode cX7_feed 103 = .ok (.iastore, 1) := by decide +kernel
theorem dX7_feed_104 : decode cX7_feed 104 = .ok (.aload_n 0, 1) := by decide +kernel
theorem dX7_feed_105 : decode cX7_feed 105 = .ok (.dup, 1) := by decide +kernel
theorem dX7_feed_106 : decode cX7_feed 106 = .ok (.getfield 57, 3) := by decide +kernel
theorem dX7_feed_109 : decode cX7_feed 109 = .ok (.iconst 1, 1) := by decide +kernel
theorem dX7_feed_110 : decode cX7_feed 110 = .ok (.iadd, 1) := by decide +kernel
theorem dX7_feed_111 : decode cX7_feed 111 = .ok (.putfield 57, 3) := by decide +kernel
theorem dX7_feed_114 : decode cX7_feed 114 = .ok (.iinc 7 1, 3) := by decide +kernel
theorem dX7_feed_117 : decode cX7_feed 117 = .ok (.goto (-50), 3) := by decide +kernel
theorem dX7_feed_120 : decode cX7_feed 120 = .ok (.aload_n 0, 1) := by decide +kernel
theorem dX7_feed_121 : decode cX7_feed 121 = .ok (.getfield 57, 3) := by decide +kernel
theorem dX7_feed_124 : decode cX7_feed 124 = .ok (.ireturn, 1) := by decide +kernel
set_option maxRecDepth 20000 in
theorem ggX7_end_X7_in : GoodIn wsX7_end wsX7_in := goodIn_r _ [6] (by decide +kernel) (by decide +kernel)
set_option maxRecDepth 20000 in
theorem gX7_end_X7_in : GoodIn wsX7_end (va_wsS RX7 60 yX7_in wsX7_in) := goodIn_app (goodIn_of _ (by decide +kernel)) ggX7_end_X7_in
theorem dX7_end_0 : decode cX7_end 0 = .ok (.aload_n 0, 1) := by decide +kernel
theorem dX7_end_1 : decode cX7_end 1 = .ok (.iconst 0, 1) := by decide +kernel
theorem dX7_end_2 : decode cX7_end 2 = .ok (.putfield 49, 3) := by decide +kernel
theorem dX7_end_5 : decode cX7_end 5 = .ok (.iload_n 1, 1) := by decide +kernel
theorem dX7_end_6 : decode cX7_end 6 = .ok (.iconst 0, 1) := by decide +kernel
theorem dX7_end_7 : decode cX7_end 7 = .ok (.aload_n 0, 1) := by decide +kernel
theorem dX7_end_8 : decode cX7_end 8 = .ok (.getfield 57, 3) := by decide +kernel
theorem dX7_end_11 : decode cX7_end 11 = .ok (.invokestatic 60, 3) := by decide +kernel
theorem dX7_end_14 : decode cX7_end 14 = .ok (.ifCond .ne 5, 3) := by decide +kernel
theorem dX7_end_17 : decode cX7_end 17 = .ok (.iconst 0, 1) := by decide +kernel
theorem dX7_end_18 : decode cX7_end 18 = .ok (.ireturn, 1) := by decide +kernel
theorem dX7_end_19 : decode cX7_end 19 = .ok (.aload_n 0, 1) := by decide +kernel
theorem dX7_end_20 : decode cX7_end 20 = .ok (.iload_n 1, 1) := by decide +kernel
theorem dX7_end_21 : decode cX7_end 21 = .ok (.putfield 57, 3) := by decide +kernel
theorem dX7_end_24 : decode cX7_end 24 = .ok (.iconst 1, 1) := by decide +kernel
theorem dX7_end_25 : decode cX7_end 25 = .ok (.ireturn, 1) := by decide +kernel
theorem dX7_here_0 : decode cX7_here 0 = .ok (.aload_n 0, 1) := by decide +kernel
theorem dX7_here_1 : decode cX7_here 1 = .ok (.getfield 64, 3) := by decide +kernel
theorem dX7_here_4 : decode cX7_here 4 = .ok (.aload_n 0, 1) := by decide +kernel
theorem dX7_here_5 : decode cX7_here 5 = .ok (.getfield 57, 3) := by decide +kernel
theorem dX7_here_8 : decode cX7_here 8 = .ok (.if_icmp .ge 15, 3) := by decide +kernel
theorem dX7_here_23 : decode cX7_here 23 = .ok (.iconst (-1), 1) := by decide +kernel
theorem dX7_here_24 : decode cX7_here 24 = .ok (.ireturn, 1) := by decide +kernel
set_option maxRecDepth 20000 in
theorem ggX7_ahead_X7_here : GoodIn wsX7_ahead wsX7_here := goodIn_r _ [6, 1, 7, 8, 9, 10, 11, 12, 13, 14, 15, 16, 17, 18, 19, 20, 21, 22, 23, 24, 25, 26, 27, 28, 29] (by decide +kernel) (by decide +kernel)
set_option maxRecDepth 20000 in
theorem gX7_ahead_X7_here : GoodIn wsX7_ahead (wsV RX7 67 RX7 yX7_here wsX7_here) := goodIn_app (goodIn_of _ (by decide +kernel)) ggX7_ahead_X7_here
theorem dX7_ahead_0 : decode cX7_ahead 0 = .ok (.aload_n 0, 1) := by decide +kernel
theorem dX7_ahead_1 : decode cX7_ahead 1 = .ok (.invokevirtual 67, 3) := by decide +kernel
theorem dX7_ahead_4 : decode cX7_ahead 4 = .ok (.bipush 32, 2) := by decide +kernel
theorem dX7_ahead_6 : decode cX7_ahead 6 = .ok (.if_icmp .ne 16, 3) := by decide +kernel
theorem dX7_ahead_22 : decode cX7_ahead 22 = .ok (.aload_n 0, 1) := by decide +kernel
theorem dX7_ahead_23 : decode cX7_ahead 23 = .ok (.invokevirtual 67, 3) := by decide +kernel
theorem dX7_ahead_26 : decode cX7_ahead 26 = .ok (.ireturn, 1) := by decide +kernel
theorem dX7_bad_0 : decode cX7_bad 0 = .ok (.aload_n 0, 1) := by decide +kernel
theorem dX7_bad_1 : decode cX7_bad 1 = .ok (.aload_n 0, 1) := by decide +kernel
theorem dX7_bad_2 : decode cX7_bad 2 = .ok (.getfield 71, 3) := by decide +kernel
theorem dX7_bad_5 : decode cX7_bad 5 = .ok (.iconst (-1), 1) := by decide +kernel
theorem dX7_bad_6 : decode cX7_bad 6 = .ok (.if_icmp .ne 10, 3) := by decide +kernel
theorem dX7_bad_9 : decode cX7_bad 9 = .ok (.aload_n 0, 1) := by decide +kernel
theorem dX7_bad_10 : decode cX7_bad 10 = .ok (.getfield 64, 3) := by decide +kernel
theorem dX7_bad_13 : decode cX7_bad 13 = .ok (.goto 7, 3) := by decide +kernel
theorem dX7_bad_20 : decode cX7_bad 20 = .ok (.putfield 71, 3) := by decide +kernel
theorem dX7_bad_23 : decode cX7_bad 23 = .ok (.return_, 1) := by decide +kernel
theorem dX7_usual_0 : decode cX7_usual 0 = .ok (.iload_n 0, 1) := by decide +kernel
theorem dX7_usual_1 : decode cX7_usual 1 = .ok (.ifCond .ne 13, 3) := by decide +kernel
theorem dX7_usual_4 : decode cX7_usual 4 = .ok (.iload_n 1, 1) := by decide +kernel
theorem dX7_usual_5 : decode cX7_usual 5 = .ok (.ifCond .ne 7, 3) := by decide +kernel
theorem dX7_usual_8 : decode cX7_usual 8 = .ok (.iconst 1, 1) := by decide +kernel
theorem dX7_usual_9 : decode cX7_usual 9 = .ok (.goto 4, 3) := by decide +kernel
theorem dX7_usual_12 : decode cX7_usual 12 = .ok (.iconst 0, 1) := by decide +kernel
theorem dX7_usual_13 : decode cX7_usual 13 = .ok (.ireturn, 1) := by decide +kernel
theorem dX7_usual_14 : decode cX7_usual 14 = .ok (.iload_n 0, 1) := by decide +kernel
theorem dX7_usual_15 : decode cX7_usual 15 = .ok (.iconst 1, 1) := by decide +kernel
theorem dX7_usual_16 : decode cX7_usual 16 = .ok (.if_icmp .ne 15, 3) := by decide +kernel
theorem dX7_usual_19 : decode cX7_usual 19 = .ok (.iload_n 1, 1) := by decide +kernel
theorem dX7_usual_20 : decode cX7_usual 20 = .ok (.iconst 1, 1) := by decide +kernel
theorem dX7_usual_21 : decode cX7_usual 21 = .ok (.if_icmp .ne 8, 3) := by decide +kernel
theorem dX7_usual_24 : decode cX7_usual 24 = .ok (.bipush 12, 2) := by decide +kernel
theorem dX7_usual_26 : decode cX7_usual 26 = .ok (.goto 4, 3) := by decide +kernel
theorem dX7_usual_29 : decode cX7_usual 29 = .ok (.iconst 1, 1) := by decide +kernel
theorem dX7_usual_30 : decode cX7_usual 30 = .ok (.ireturn, 1) := by decide +kernel
theorem dX7_usual_31 : decode cX7_usual 31 = .ok (.iload_n 1, 1) := by decide +kernel
theorem dX7_usual_32 : decode cX7_usual 32 = .ok (.iconst 1, 1) := by decide +kernel
theorem dX7_usual_33 : decode cX7_usual 33 = .ok (.if_icmp .ne 7, 3) := by decide +kernel
theorem dX7_usual_36 : decode cX7_usual 36 = .ok (.iconst 0, 1) := by decide +kernel
theorem dX7_usual_37 : decode cX7_usual 37 = .ok (.goto 4, 3) := by decide +kernel
theorem dX7_usual_40 : decode cX7_usual 40 = .ok (.iconst 1, 1) := by decide +kernel
theorem dX7_usual_41 : decode cX7_usual 41 = .ok (.ireturn, 1) := by decide +kernel
set_option maxRecDepth 20000 in
theorem ggX7_laysUsual_X7_usual : GoodIn wsX7_laysUsual wsX7_usual := goodIn_r _ [4] (by decide +kernel) (by decide +kernel)
set_option maxRecDepth 20000 in
theorem gX7_laysUsual_X7_usual : GoodIn wsX7_laysUsual (va_wsS RX7 84 yX7_usual wsX7_usual) := goodIn_app (goodIn_of _ (by decide +kernel)) ggX7_laysUsual_X7_usual
theorem dX7_laysUsual_0 : decode cX7_laysUsual 0 = .ok (.iconst 0, 1) := by decide +kernel
theorem dX7_laysUsual_1 : decode cX7_laysUsual 1 = .ok (.istore 4, 2) := by decide +kernel
theorem dX7_laysUsual_3 : decode cX7_laysUsual 3 = .ok (.iload 4, 2) := by decide +kernel
theorem dX7_laysUsual_5 : decode cX7_laysUsual 5 = .ok (.iconst 3, 1) := by decide +kernel
theorem dX7_laysUsual_6 : decode cX7_laysUsual 6 = .ok (.if_icmp .ge 21, 3) := by decide +kernel
theorem dX7_laysUsual_9 : decode cX7_laysUsual 9 = .ok (.aload_n 2, 1) := by decide +kernel
theorem dX7_laysUsual_10 : decode cX7_laysUsual 10 = .ok (.iload_n 3, 1) := by decide +kernel
theorem dX7_laysUsual_11 : decode cX7_laysUsual 11 = .ok (.iload 4, 2) := by decide +kernel
theorem dX7_laysUsual_13 : decode cX7_laysUsual 13 = .ok (.iadd, 1) := by decide +kernel
theorem dX7_laysUsual_14 : decode cX7_laysUsual 14 = .ok (.iload_n 1, 1) := by decide +kernel
theorem dX7_laysUsual_15 : decode cX7_laysUsual 15 = .ok (.iload 4, 2) := by decide +kernel
theorem dX7_laysUsual_17 : decode cX7_laysUsual 17 = .ok (.invokestatic 84, 3) := by decide +kernel
theorem dX7_laysUsual_20 : decode cX7_laysUsual 20 = .ok (.iastore, 1) := by decide +kernel
theorem dX7_laysUsual_21 : decode cX7_laysUsual 21 = .ok (.iinc 4 1, 3) := by decide +kernel
theorem dX7_laysUsual_24 : decode cX7_laysUsual 24 = .ok (.goto (-21), 3) := by decide +kernel
theorem dX7_laysUsual_27 : decode cX7_laysUsual 27 = .ok (.return_, 1) := by decide +kernel
set_option maxRecDepth 20000 in
theorem ggX7_clause_X7_ahead : GoodIn wsX7_clause wsX7_ahead := goodIn_r _ [11, 1, 12, 13, 14, 10, 15, 16, 17, 56, 57, 58, 59, 60, 61, 62, 63, 64, 65, 66, 67, 68, 69, 70, 71, 72, 73, 74, 75, 76] (by decide +kernel) (by decide +kernel)
set_option maxRecDepth 20000 in
theorem gX7_clause_X7_ahead : GoodIn wsX7_clause (wsV RX7 74 RX7 yX7_ahead wsX7_ahead) := goodIn_app (goodIn_of _ (by decide +kernel)) ggX7_clause_X7_ahead
set_option maxRecDepth 20000 in
theorem ggX7_clause_X7_bad : GoodIn wsX7_clause wsX7_bad := goodIn_r _ [52, 22, 1, 56, 57, 58, 59, 60, 61, 62, 63, 64, 65, 66, 67, 68, 69, 70, 71, 72, 73, 74, 75, 76] (by decide +kernel) (by decide +kernel)
set_option maxRecDepth 20000 in
theorem gX7_clause_X7_bad : GoodIn wsX7_clause (wsV RX7 81 RX7 yX7_bad wsX7_bad) := goodIn_app (goodIn_of _ (by decide +kernel)) ggX7_clause_X7_bad
theorem dX7_clause_0 : decode cX7_clause 0 = .ok (.aload_n 0, 1) := by decide +kernel
theorem dX7_clause_1 : decode cX7_clause 1 = .ok (.invokevirtual 74, 3) := by decide +kernel
theorem dX7_clause_4 : decode cX7_clause 4 = .ok (.istore_n 2, 1) := by decide +kernel
theorem dX7_clause_5 : decode cX7_clause 5 = .ok (.iload_n 2, 1) := by decide +kernel
theorem dX7_clause_6 : decode cX7_clause 6 = .ok (.bipush 110, 2) := by decide +kernel
theorem dX7_clause_8 : decode cX7_clause 8 = .ok (.if_icmp .ne 30, 3) := by decide +kernel
theorem dX7_clause_38 : decode cX7_clause 38 = .ok (.iload_n 2, 1) := by decide +kernel
theorem dX7_clause_39 : decode cX7_clause 39 = .ok (.bipush 104, 2) := by decide +kernel
theorem dX7_clause_41 : decode cX7_clause 41 = .ok (.if_icmp .ne 49, 3) := by decide +kernel
theorem dX7_clause_90 : decode cX7_clause 90 = .ok (.iload_n 2, 1) := by decide +kernel
theorem dX7_clause_91 : decode cX7_clause 91 = .ok (.bipush 99, 2) := by decide +kernel
theorem dX7_clause_93 : decode cX7_clause 93 = .ok (.if_icmp .ne 49, 3) := by decide +kernel
theorem dX7_clause_142 : decode cX7_clause 142 = .ok (.aload_n 0, 1) := by decide +kernel
theorem dX7_clause_143 : decode cX7_clause 143 = .ok (.invokevirtual 81, 3) := by decide +kernel
theorem dX7_clause_146 : decode cX7_clause 146 = .ok (.return_, 1) := by decide +kernel
set_option maxRecDepth 20000 in
theorem ggX7_readNet_X7_laysUsual : GoodIn wsX7_readNet wsX7_laysUsual := goodIn_r _ [10, 11, 12, 9, 13] (by decide +kernel) (by decide +kernel)
set_option maxRecDepth 20000 in
theorem gX7_readNet_X7_laysUsual : GoodIn wsX7_readNet (wsV RX7 88 RX7 yX7_laysUsual wsX7_laysUsual) := goodIn_app (goodIn_of _ (by decide +kernel)) ggX7_readNet_X7_laysUsual
set_option maxRecDepth 20000 in
theorem ggX7_readNet_X7_clause : GoodIn wsX7_readNet wsX7_clause := goodIn_r _ [17, 1, 5, 3, 18, 4, 19, 20, 21, 22, 9, 23, 24, 25, 26, 27, 28, 29, 30, 31, 32, 33, 2, 6, 7, 8, 10, 11, 12, 13, 34, 35, 36, 37, 38, 39, 40, 41, 42, 43, 44, 45, 46, 47, 48, 49, 50, 51, 52, 53, 54, 55, 56, 57, 58, 59, 60, 61, 62, 63, 64, 65, 66, 67, 68, 69, 70, 71, 72, 73, 74, 75, 76, 77, 78, 79, 80] (by decide +kernel) (by decide +kernel)
set_option maxRecDepth 20000 in
theorem gX7_readNet_X7_clause : GoodIn wsX7_readNet (wsV RX7 117 RX7 yX7_clause wsX7_clause) := goodIn_app (goodIn_of _ (by decide +kernel)) ggX7_readNet_X7_clause
theorem dX7_readNet_0 : decode cX7_readNet 0 = .ok (.aload_n 0, 1) := by decide +kernel
theorem dX7_readNet_1 : decode cX7_readNet 1 = .ok (.iconst 0, 1) := by decide +kernel
theorem dX7_readNet_2 : decode cX7_readNet 2 = .ok (.putfield 64, 3) := by decide +kernel
theorem dX7_readNet_5 : decode cX7_readNet 5 = .ok (.aload_n 0, 1) := by decide +kernel
theorem dX7_readNet_6 : decode cX7_readNet 6 = .ok (.iconst (-1), 1) := by decide +kernel
theorem dX7_readNet_7 : decode cX7_readNet 7 = .ok (.putfield 71, 3) := by decide +kernel
theorem dX7_readNet_10 : decode cX7_readNet 10 = .ok (.aload_n 0, 1) := by decide +kernel
theorem dX7_readNet_11 : decode cX7_readNet 11 = .ok (.iconst 0, 1) := by decide +kernel
theorem dX7_readNet_12 : decode cX7_readNet 12 = .ok (.putfield 111, 3) := by decide +kernel
theorem dX7_readNet_15 : decode cX7_readNet 15 = .ok (.aload_n 0, 1) := by decide +kernel
theorem dX7_readNet_16 : decode cX7_readNet 16 = .ok (.iconst 0, 1) := by decide +kernel
theorem dX7_readNet_17 : decode cX7_readNet 17 = .ok (.putfield 114, 3) := by decide +kernel
theorem dX7_readNet_20 : decode cX7_readNet 20 = .ok (.aload_n 0, 1) := by decide +kernel
theorem dX7_readNet_21 : decode cX7_readNet 21 = .ok (.iconst 0, 1) := by decide +kernel
theorem dX7_readNet_22 : decode cX7_readNet 22 = .ok (.aload_n 0, 1) := by decide +kernel
theorem dX7_readNet_23 : decode cX7_readNet 23 = .ok (.getfield 13, 3) := by decide +kernel
theorem dX7_readNet_26 : decode cX7_readNet 26 = .ok (.iconst 0, 1) := by decide +kernel
theorem dX7_readNet_27 : decode cX7_readNet 27 = .ok (.invokevirtual 88, 3) := by decide +kernel
theorem dX7_readNet_30 : decode cX7_readNet 30 = .ok (.iconst 1, 1) := by decide +kernel
theorem dX7_readNet_31 : decode cX7_readNet 31 = .ok (.istore_n 1, 1) := by decide +kernel
theorem dX7_readNet_32 : decode cX7_readNet 32 = .ok (.iconst 1, 1) := by decide +kernel
theorem dX7_readNet_33 : decode cX7_readNet 33 = .ok (.istore_n 2, 1) := by decide +kernel
theorem dX7_readNet_34 : decode cX7_readNet 34 = .ok (.iload_n 2, 1) := by decide +kernel
theorem dX7_readNet_35 : decode cX7_readNet 35 = .ok (.ifCond .eq 54, 3) := by decide +kernel
theorem dX7_readNet_38 : decode cX7_readNet 38 = .ok (.aload_n 0, 1) := by decide +kernel
theorem dX7_readNet_39 : decode cX7_readNet 39 = .ok (.iload_n 1, 1) := by decide +kernel
theorem dX7_readNet_40 : decode cX7_readNet 40 = .ok (.invokevirtual 117, 3) := by decide +kernel
theorem dX7_readNet_43 : decode cX7_readNet 43 = .ok (.iconst 0, 1) := by decide +kernel
theorem dX7_readNet_44 : decode cX7_readNet 44 = .ok (.istore_n 1, 1) := by decide +kernel
theorem dX7_readNet_45 : decode cX7_readNet 45 = .ok (.aload_n 0, 1) := by decide +kernel
theorem dX7_readNet_46 : decode cX7_readNet 46 = .ok (.getfield 71, 3) := by decide +kernel
theorem dX7_readNet_49 : decode cX7_readNet 49 = .ok (.iconst (-1), 1) := by decide +kernel
theorem dX7_readNet_50 : decode cX7_readNet 50 = .ok (.if_icmp .ne 16, 3) := by decide +kernel
theorem dX7_readNet_66 : decode cX7_readNet 66 = .ok (.iconst 0, 1) := by decide +kernel
theorem dX7_readNet_67 : decode cX7_readNet 67 = .ok (.istore_n 2, 1) := by decide +kernel
theorem dX7_readNet_68 : decode cX7_readNet 68 = .ok (.aload_n 0, 1) := by decide +kernel
theorem dX7_readNet_69 : decode cX7_readNet 69 = .ok (.dup, 1) := by decide +kernel
theorem dX7_readNet_70 : decode cX7_readNet 70 = .ok (.getfield 64, 3) := by decide +kernel
theorem dX7_readNet_73 : decode cX7_readNet 73 = .ok (.iload_n 2, 1) := by decide +kernel
theorem dX7_readNet_74 : decode cX7_readNet 74 = .ok (.ifCond .eq 7, 3) := by decide +kernel
theorem dX7_readNet_81 : decode cX7_readNet 81 = .ok (.iconst 0, 1) := by decide +kernel
theorem dX7_readNet_82 : decode cX7_readNet 82 = .ok (.iadd, 1) := by decide +kernel
theorem dX7_readNet_83 : decode cX7_readNet 83 = .ok (.putfield 64, 3) := by decide +kernel
theorem dX7_readNet_86 : decode cX7_readNet 86 = .ok (.goto (-52), 3) := by decide +kernel
theorem dX7_readNet_89 : decode cX7_readNet 89 = .ok (.aload_n 0, 1) := by decide +kernel
theorem dX7_readNet_90 : decode cX7_readNet 90 = .ok (.getfield 71, 3) := by decide +kernel
theorem dX7_readNet_93 : decode cX7_readNet 93 = .ok (.iconst (-1), 1) := by decide +kernel
theorem dX7_readNet_94 : decode cX7_readNet 94 = .ok (.if_icmp .ne 15, 3) := by decide +kernel
theorem dX7_readNet_109 : decode cX7_readNet 109 = .ok (.aload_n 0, 1) := by decide +kernel
theorem dX7_readNet_110 : decode cX7_readNet 110 = .ok (.getfield 71, 3) := by decide +kernel
theorem dX7_readNet_113 : decode cX7_readNet 113 = .ok (.ireturn, 1) := by decide +kernel
set_option maxRecDepth 20000 in
theorem ggX7_fault_X7_readNet : GoodIn wsX7_fault wsX7_readNet := goodIn_r _ [6, 7, 8, 9, 10, 11, 12, 13, 14, 5, 15, 16, 17, 18, 19, 20, 21, 22, 23, 24, 25, 26, 27, 28, 29, 30, 31, 32, 33, 34, 35, 36, 37, 38, 39, 40, 41, 42, 43, 44, 45, 46, 47, 48, 49, 50, 51, 52, 53, 54, 55, 56, 57, 58, 59, 60, 61, 62, 63, 64, 65, 66, 67, 68, 69, 70, 71, 72, 73, 74, 75, 76, 77, 78, 79, 80, 81, 82, 83, 84, 85] (by decide +kernel) (by decide +kernel)
set_option maxRecDepth 20000 in
theorem gX7_fault_X7_readNet : GoodIn wsX7_fault (wsV RX7 121 RX7 yX7_readNet wsX7_readNet) := goodIn_app (goodIn_of _ (by decide +kernel)) ggX7_fault_X7_readNet
theorem dX7_fault_0 : decode cX7_fault 0 = .ok (.aload_n 0, 1) := by decide +kernel
theorem dX7_fault_1 : decode cX7_fault 1 = .ok (.iconst 0, 1) := by decide +kernel
theorem dX7_fault_2 : decode cX7_fault 2 = .ok (.putfield 49, 3) := by decide +kernel
theorem dX7_fault_5 : decode cX7_fault 5 = .ok (.aload_n 0, 1) := by decide +kernel
theorem dX7_fault_6 : decode cX7_fault 6 = .ok (.invokevirtual 121, 3) := by decide +kernel
theorem dX7_fault_9 : decode cX7_fault 9 = .ok (.ireturn, 1) := by decide +kernel
theorem dX7_isNet_0 : decode cX7_isNet 0 = .ok (.aload_n 0, 1) := by decide +kernel
theorem dX7_isNet_1 : decode cX7_isNet 1 = .ok (.getfield 124, 3) := by decide +kernel
theorem dX7_isNet_4 : decode cX7_isNet 4 = .ok (.ifCond .le 7, 3) := by decide +kernel
theorem dX7_isNet_11 : decode cX7_isNet 11 = .ok (.iconst 0, 1) := by decide +kernel
theorem dX7_isNet_12 : decode cX7_isNet 12 = .ok (.ireturn, 1) := by decide +kernel
set_option maxRecDepth 20000 in
theorem ggX7_isHop_X7_in : GoodIn wsX7_isHop wsX7_in := goodIn_r _ [5] (by decide +kernel) (by decide +kernel)
set_option maxRecDepth 20000 in
theorem gX7_isHop_X7_in : GoodIn wsX7_isHop (va_wsS RX7 60 yX7_in wsX7_in) := goodIn_app (goodIn_of _ (by decide +kernel)) ggX7_isHop_X7_in
theorem dX7_isHop_0 : decode cX7_isHop 0 = .ok (.iload_n 1, 1) := by decide +kernel
theorem dX7_isHop_1 : decode cX7_isHop 1 = .ok (.iconst 0, 1) := by decide +kernel
theorem dX7_isHop_2 : decode cX7_isHop 2 = .ok (.aload_n 0, 1) := by decide +kernel
theorem dX7_isHop_3 : decode cX7_isHop 3 = .ok (.getfield 124, 3) := by decide +kernel
theorem dX7_isHop_6 : decode cX7_isHop 6 = .ok (.iconst 1, 1) := by decide +kernel
theorem dX7_isHop_7 : decode cX7_isHop 7 = .ok (.isub, 1) := by decide +kernel
theorem dX7_isHop_8 : decode cX7_isHop 8 = .ok (.invokestatic 60, 3) := by decide +kernel
theorem dX7_isHop_11 : decode cX7_isHop 11 = .ok (.ireturn, 1) := by decide +kernel
set_option maxRecDepth 20000 in
theorem ggX7_isCircuit_X7_in : GoodIn wsX7_isCircuit wsX7_in := goodIn_r _ [5] (by decide +kernel) (by decide +kernel)
set_option maxRecDepth 20000 in
theorem gX7_isCircuit_X7_in : GoodIn wsX7_isCircuit (va_wsS RX7 60 yX7_in wsX7_in) := goodIn_app (goodIn_of _ (by decide +kernel)) ggX7_isCircuit_X7_in
theorem dX7_isCircuit_0 : decode cX7_isCircuit 0 = .ok (.iload_n 1, 1) := by decide +kernel
theorem dX7_isCircuit_1 : decode cX7_isCircuit 1 = .ok (.iconst 0, 1) := by decide +kernel
theorem dX7_isCircuit_2 : decode cX7_isCircuit 2 = .ok (.aload_n 0, 1) := by decide +kernel
theorem dX7_isCircuit_3 : decode cX7_isCircuit 3 = .ok (.getfield 127, 3) := by decide +kernel
theorem dX7_isCircuit_6 : decode cX7_isCircuit 6 = .ok (.iconst 1, 1) := by decide +kernel
theorem dX7_isCircuit_7 : decode cX7_isCircuit 7 = .ok (.isub, 1) := by decide +kernel
theorem dX7_isCircuit_8 : decode cX7_isCircuit 8 = .ok (.invokestatic 60, 3) := by decide +kernel
theorem dX7_isCircuit_11 : decode cX7_isCircuit 11 = .ok (.ireturn, 1) := by decide +kernel
set_option maxRecDepth 20000 in
theorem ggX7_isLane_X7_isHop : GoodIn wsX7_isLane wsX7_isHop := goodIn_r _ [5, 6, 7, 8, 4, 9, 15, 16, 17, 18, 19, 20, 21, 22, 23, 24, 25, 26, 27, 28, 29, 30, 31, 32, 33, 34, 35] (by decide +kernel) (by decide +kernel)
set_option maxRecDepth 20000 in
theorem gX7_isLane_X7_isHop : GoodIn wsX7_isLane (wsV RX7 130 RX7 yX7_isHop wsX7_isHop) := goodIn_app (goodIn_of _ (by decide +kernel)) ggX7_isLane_X7_isHop
theorem dX7_isLane_0 : decode cX7_isLane 0 = .ok (.aload_n 0, 1) := by decide +kernel
theorem dX7_isLane_1 : decode cX7_isLane 1 = .ok (.iload_n 1, 1) := by decide +kernel
theorem dX7_isLane_2 : decode cX7_isLane 2 = .ok (.invokevirtual 130, 3) := by decide +kernel
theorem dX7_isLane_5 : decode cX7_isLane 5 = .ok (.ifCond .eq 15, 3) := by decide +kernel
theorem dX7_isLane_20 : decode cX7_isLane 20 = .ok (.iconst 0, 1) := by decide +kernel
theorem dX7_isLane_21 : decode cX7_isLane 21 = .ok (.ireturn, 1) := by decide +kernel
set_option maxRecDepth 20000 in
theorem ggX7_isNode_X7_isNet : GoodIn wsX7_isNode wsX7_isNet := goodIn_r _ [6, 1, 10, 11, 12, 13, 14, 15, 16, 17, 18, 19, 20, 21, 22, 23, 24, 25, 26, 27, 28, 29, 30] (by decide +kernel) (by decide +kernel)
set_option maxRecDepth 20000 in
theorem gX7_isNode_X7_isNet : GoodIn wsX7_isNode (wsV RX7 136 RX7 yX7_isNet wsX7_isNet) := goodIn_app (goodIn_of _ (by decide +kernel)) ggX7_isNode_X7_isNet
theorem dX7_isNode_0 : decode cX7_isNode 0 = .ok (.aload_n 0, 1) := by decide +kernel
theorem dX7_isNode_1 : decode cX7_isNode 1 = .ok (.invokevirtual 136, 3) := by decide +kernel
theorem dX7_isNode_4 : decode cX7_isNode 4 = .ok (.ifCond .eq 19, 3) := by decide +kernel
theorem dX7_isNode_23 : decode cX7_isNode 23 = .ok (.iconst 0, 1) := by decide +kernel
theorem dX7_isNode_24 : decode cX7_isNode 24 = .ok (.ireturn, 1) := by decide +kernel
set_option maxRecDepth 20000 in
theorem ggX7_net_X7_readNet : GoodIn wsX7_net wsX7_readNet := goodIn_r _ [16, 17, 18, 3, 5, 11, 19, 20, 21, 15, 22, 23, 24, 25, 26, 27, 28, 29, 4, 6, 30, 31, 32, 33, 34, 35, 36, 37, 2, 38, 39, 40, 41, 42, 43, 44, 45, 46, 47, 48, 49, 50, 51, 52, 53, 54, 55, 56, 57, 58, 59, 60, 61, 62, 63, 64, 65, 66, 67, 68, 95, 96, 97, 98, 99, 100, 101, 102, 103, 104, 105, 106, 107, 108, 109, 110, 111, 112, 113, 114, 115] (by decide +kernel) (by decide +kernel)
set_option maxRecDepth 20000 in
theorem gX7_net_X7_readNet : GoodIn wsX7_net (wsV RX7 121 RX7 yX7_readNet wsX7_readNet) := goodIn_app (goodIn_of _ (by decide +kernel)) ggX7_net_X7_readNet
theorem dX7_net_0 : decode cX7_net 0 = .ok (.aload_n 0, 1) := by decide +kernel
theorem dX7_net_1 : decode cX7_net 1 = .ok (.iconst 0, 1) := by decide +kernel
theorem dX7_net_2 : decode cX7_net 2 = .ok (.putfield 49, 3) := by decide +kernel
theorem dX7_net_5 : decode cX7_net 5 = .ok (.aload_n 0, 1) := by decide +kernel
theorem dX7_net_6 : decode cX7_net 6 = .ok (.invokevirtual 121, 3) := by decide +kernel
theorem dX7_net_9 : decode cX7_net 9 = .ok (.iconst (-1), 1) := by decide +kernel
theorem dX7_net_10 : decode cX7_net 10 = .ok (.if_icmp .eq 5, 3) := by decide +kernel
theorem dX7_net_13 : decode cX7_net 13 = .ok (.iconst (-1), 1) := by decide +kernel
theorem dX7_net_14 : decode cX7_net 14 = .ok (.ireturn, 1) := by decide +kernel
theorem dX7_refuses_0 : decode cX7_refuses 0 = .ok (.aload_n 0, 1) := by decide +kernel
theorem dX7_refuses_1 : decode cX7_refuses 1 = .ok (.getfield 25, 3) := by decide +kernel
theorem dX7_refuses_4 : decode cX7_refuses 4 = .ok (.iload_n 1, 1) := by decide +kernel
theorem dX7_refuses_5 : decode cX7_refuses 5 = .ok (.dup2, 1) := by decide +kernel
theorem dX7_refuses_6 : decode cX7_refuses 6 = .ok (.iaload, 1) := by decide +kernel
theorem dX7_refuses_7 : decode cX7_refuses 7 = .ok (.iconst 1, 1) := by decide +kernel
theorem dX7_refuses_8 : decode cX7_refuses 8 = .ok (.iadd, 1) := by decide +kernel
theorem dX7_refuses_9 : decode cX7_refuses 9 = .ok (.iastore, 1) := by decide +kernel
theorem dX7_refuses_10 : decode cX7_refuses 10 = .ok (.iconst (-1), 1) := by decide +kernel
theorem dX7_refuses_11 : decode cX7_refuses 11 = .ok (.ireturn, 1) := by decide +kernel
set_option maxRecDepth 20000 in
theorem ggX7_go_X7_isNet : GoodIn wsX7_go wsX7_isNet := goodIn_r _ [7, 8, 122, 123, 124, 125, 126, 127, 128, 129, 130, 131, 132, 133, 134, 135, 136, 137, 138, 139, 140, 141, 142] (by decide +kernel) (by decide +kernel)
set_option maxRecDepth 20000 in
theorem gX7_go_X7_isNet : GoodIn wsX7_go (wsV RX7 136 RX7 yX7_isNet wsX7_isNet) := goodIn_app (goodIn_of _ (by decide +kernel)) ggX7_go_X7_isNet
set_option maxRecDepth 20000 in
theorem ggX7_go_X7_refuses : GoodIn wsX7_go wsX7_refuses := goodIn_r _ [12, 13, 122, 123, 124, 125, 126, 127, 128, 129, 130, 131, 132, 133, 134, 135, 136, 137, 138, 139, 140, 141, 142] (by decide +kernel) (by decide +kernel)
set_option maxRecDepth 20000 in
theorem gX7_go_X7_refuses : GoodIn wsX7_go (wsV RX7 223 RX7 yX7_refuses wsX7_refuses) := goodIn_app (goodIn_of _ (by decide +kernel)) ggX7_go_X7_refuses
theorem dX7_go_0 : decode cX7_go 0 = .ok (.aload_n 0, 1) := by decide +kernel
theorem dX7_go_1 : decode cX7_go 1 = .ok (.iconst 0, 1) := by decide +kernel
theorem dX7_go_2 : decode cX7_go 2 = .ok (.putfield 49, 3) := by decide +kernel
theorem dX7_go_5 : decode cX7_go 5 = .ok (.aload_n 0, 1) := by decide +kernel
theorem dX7_go_6 : decode cX7_go 6 = .ok (.invokevirtual 136, 3) := by decide +kernel
theorem dX7_go_9 : decode cX7_go 9 = .ok (.ifCond .ne 9, 3) := by decide +kernel
theorem dX7_go_12 : decode cX7_go 12 = .ok (.aload_n 0, 1) := by decide +kernel
theorem dX7_go_13 : decode cX7_go 13 = .ok (.iconst 0, 1) := by decide +kernel
theorem dX7_go_14 : decode cX7_go 14 = .ok (.invokevirtual 223, 3) := by decide +kernel
theorem dX7_go_17 : decode cX7_go 17 = .ok (.ireturn, 1) := by decide +kernel
set_option maxRecDepth 20000 in
theorem ggX7_jam_X7_isHop : GoodIn wsX7_jam wsX7_isHop := goodIn_r _ [7, 8, 9, 10, 6, 11, 17, 18, 19, 20, 21, 22, 23, 24, 25, 26, 27, 28, 29, 30, 31, 32, 33, 34, 35, 36, 37] (by decide +kernel) (by decide +kernel)
set_option maxRecDepth 20000 in
theorem gX7_jam_X7_isHop : GoodIn wsX7_jam (wsV RX7 130 RX7 yX7_isHop wsX7_isHop) := goodIn_app (goodIn_of _ (by decide +kernel)) ggX7_jam_X7_isHop
set_option maxRecDepth 20000 in
theorem ggX7_jam_X7_refuses : GoodIn wsX7_jam wsX7_refuses := goodIn_r _ [15, 16, 17, 18, 19, 20, 21, 22, 23, 24, 25, 26, 27, 28, 29, 30, 31, 32, 33, 34, 35, 36, 37] (by decide +kernel) (by decide +kernel)
set_option maxRecDepth 20000 in
theorem gX7_jam_X7_refuses : GoodIn wsX7_jam (wsV RX7 223 RX7 yX7_refuses wsX7_refuses) := goodIn_app (goodIn_of _ (by decide +kernel)) ggX7_jam_X7_refuses
theorem dX7_jam_0 : decode cX7_jam 0 = .ok (.aload_n 0, 1) := by decide +kernel
theorem dX7_jam_1 : decode cX7_jam 1 = .ok (.iconst 0, 1) := by decide +kernel
theorem dX7_jam_2 : decode cX7_jam 2 = .ok (.putfield 49, 3) := by decide +kernel
theorem dX7_jam_5 : decode cX7_jam 5 = .ok (.aload_n 0, 1) := by decide +kernel
theorem dX7_jam_6 : decode cX7_jam 6 = .ok (.iload_n 1, 1) := by decide +kernel
theorem dX7_jam_7 : decode cX7_jam 7 = .ok (.invokevirtual 130, 3) := by decide +kernel
theorem dX7_jam_10 : decode cX7_jam 10 = .ok (.ifCond .ne 9, 3) := by decide +kernel
theorem dX7_jam_13 : decode cX7_jam 13 = .ok (.aload_n 0, 1) := by decide +kernel
theorem dX7_jam_14 : decode cX7_jam 14 = .ok (.iconst 0, 1) := by decide +kernel
theorem dX7_jam_15 : decode cX7_jam 15 = .ok (.invokevirtual 223, 3) := by decide +kernel
theorem dX7_jam_18 : decode cX7_jam 18 = .ok (.ireturn, 1) := by decide +kernel
set_option maxRecDepth 20000 in
theorem ggX7_source_X7_isCircuit : GoodIn wsX7_source wsX7_isCircuit := goodIn_r _ [7, 8, 9, 10, 6, 11, 20, 21, 22, 23, 24, 25, 26, 27, 28, 29, 30, 31, 32, 33, 34, 35, 36, 37, 38, 39, 40] (by decide +kernel) (by decide +kernel)
set_option maxRecDepth 20000 in
theorem gX7_source_X7_isCircuit : GoodIn wsX7_source (wsV RX7 133 RX7 yX7_isCircuit wsX7_isCircuit) := goodIn_app (goodIn_of _ (by decide +kernel)) ggX7_source_X7_isCircuit
set_option maxRecDepth 20000 in
theorem ggX7_source_X7_refuses : GoodIn wsX7_source wsX7_refuses := goodIn_r _ [15, 16, 20, 21, 22, 23, 24, 25, 26, 27, 28, 29, 30, 31, 32, 33, 34, 35, 36, 37, 38, 39, 40] (by decide +kernel) (by decide +kernel)
set_option maxRecDepth 20000 in
theorem gX7_source_X7_refuses : GoodIn wsX7_source (wsV RX7 223 RX7 yX7_refuses wsX7_refuses) := goodIn_app (goodIn_of _ (by decide +kernel)) ggX7_source_X7_refuses
theorem dX7_source_0 : decode cX7_source 0 = .ok (.aload_n 0, 1) := by decide +kernel
theorem dX7_source_1 : decode cX7_source 1 = .ok (.iconst 0, 1) := by decide +kernel
theorem dX7_source_2 : decode cX7_source 2 = .ok (.putfield 49, 3) := by decide +kernel
theorem dX7_source_5 : decode cX7_source 5 = .ok (.aload_n 0, 1) := by decide +kernel
theorem dX7_source_6 : decode cX7_source 6 = .ok (.iload_n 1, 1) := by decide +kernel
theorem dX7_source_7 : decode cX7_source 7 = .ok (.invokevirtual 133, 3) := by decide +kernel
theorem dX7_source_10 : decode cX7_source 10 = .ok (.ifCond .ne 9, 3) := by decide +kernel
theorem dX7_source_13 : decode cX7_source 13 = .ok (.aload_n 0, 1) := by decide +kernel
theorem dX7_source_14 : decode cX7_source 14 = .ok (.iconst 0, 1) := by decide +kernel
theorem dX7_source_15 : decode cX7_source 15 = .ok (.invokevirtual 223, 3) := by decide +kernel
theorem dX7_source_18 : decode cX7_source 18 = .ok (.ireturn, 1) := by decide +kernel
set_option maxRecDepth 20000 in
theorem ggX7_takes_X7_isCircuit : GoodIn wsX7_takes wsX7_isCircuit := goodIn_r _ [7, 8, 9, 10, 6, 11, 20, 21, 22, 23, 24, 25, 26, 27, 28, 29, 30, 31, 32, 33, 34, 35, 36, 37, 38, 39, 40] (by decide +kernel) (by decide +kernel)
set_option maxRecDepth 20000 in
theorem gX7_takes_X7_isCircuit : GoodIn wsX7_takes (wsV RX7 133 RX7 yX7_isCircuit wsX7_isCircuit) := goodIn_app (goodIn_of _ (by decide +kernel)) ggX7_takes_X7_isCircuit
set_option maxRecDepth 20000 in
theorem ggX7_takes_X7_refuses : GoodIn wsX7_takes wsX7_refuses := goodIn_r _ [15, 16, 20, 21, 22, 23, 24, 25, 26, 27, 28, 29, 30, 31, 32, 33, 34, 35, 36, 37, 38, 39, 40] (by decide +kernel) (by decide +kernel)
set_option maxRecDepth 20000 in
theorem gX7_takes_X7_refuses : GoodIn wsX7_takes (wsV RX7 223 RX7 yX7_refuses wsX7_refuses) := goodIn_app (goodIn_of _ (by decide +kernel)) ggX7_takes_X7_refuses
theorem dX7_takes_0 : decode cX7_takes 0 = .ok (.aload_n 0, 1) := by decide +kernel
theorem dX7_takes_1 : decode cX7_takes 1 = .ok (.iconst 0, 1) := by decide +kernel
theorem dX7_takes_2 : decode cX7_takes 2 = .ok (.putfield 49, 3) := by decide +kernel
theorem dX7_takes_5 : decode cX7_takes 5 = .ok (.aload_n 0, 1) := by decide +kernel
theorem dX7_takes_6 : decode cX7_takes 6 = .ok (.iload_n 1, 1) := by decide +kernel
theorem dX7_takes_7 : decode cX7_takes 7 = .ok (.invokevirtual 133, 3) := by decide +kernel
theorem dX7_takes_10 : decode cX7_takes 10 = .ok (.ifCond .ne 9, 3) := by decide +kernel
theorem dX7_takes_13 : decode cX7_takes 13 = .ok (.aload_n 0, 1) := by decide +kernel
theorem dX7_takes_14 : decode cX7_takes 14 = .ok (.iconst 0, 1) := by decide +kernel
theorem dX7_takes_15 : decode cX7_takes 15 = .ok (.invokevirtual 223, 3) := by decide +kernel
theorem dX7_takes_18 : decode cX7_takes 18 = .ok (.ireturn, 1) := by decide +kernel
set_option maxRecDepth 20000 in
theorem ggX7_whyZone_X7_isLane : GoodIn wsX7_whyZone wsX7_isLane := goodIn_r _ [7, 8, 9, 10, 6, 11, 12, 13, 14, 15, 16, 17, 18, 19, 20, 44, 45, 46, 47, 48, 49, 50, 51, 52, 53, 54, 55, 56, 57, 58, 59, 60, 61, 62, 63, 64] (by decide +kernel) (by decide +kernel)
set_option maxRecDepth 20000 in
theorem gX7_whyZone_X7_isLane : GoodIn wsX7_whyZone (wsV RX7 229 RX7 yX7_isLane wsX7_isLane) := goodIn_app (goodIn_of _ (by decide +kernel)) ggX7_whyZone_X7_isLane
theorem dX7_whyZone_0 : decode cX7_whyZone 0 = .ok (.aload_n 0, 1) := by decide +kernel
theorem dX7_whyZone_1 : decode cX7_whyZone 1 = .ok (.iload_n 1, 1) := by decide +kernel
theorem dX7_whyZone_2 : decode cX7_whyZone 2 = .ok (.iload_n 2, 1) := by decide +kernel
theorem dX7_whyZone_3 : decode cX7_whyZone 3 = .ok (.invokevirtual 229, 3) := by decide +kernel
theorem dX7_whyZone_6 : decode cX7_whyZone 6 = .ok (.ifCond .ne 5, 3) := by decide +kernel
theorem dX7_whyZone_9 : decode cX7_whyZone 9 = .ok (.iconst 0, 1) := by decide +kernel
theorem dX7_whyZone_10 : decode cX7_whyZone 10 = .ok (.ireturn, 1) := by decide +kernel
end
section
set_option maxRecDepth 20000 in
theorem ggX7_zone_X7_whyZone : GoodIn wsX7_zone wsX7_whyZone := goodIn_r _ [7, 8, 2, 9, 10, 11, 6, 12, 13, 14, 15, 16, 17, 18, 19, 20, 21, 22, 23, 24, 25, 26, 27, 28, 29, 30, 31, 32, 33, 34, 35, 36, 37, 38, 39, 40, 41, 42, 43, 44, 45, 46, 47, 48, 54, 55, 56, 57, 58, 59, 60, 61, 62, 63, 64, 65, 66, 67, 68, 69, 70, 71, 72, 73, 74] (by decide +kernel) (by decide +kernel)
set_option maxRecDepth 20000 in
theorem gX7_zone_X7_whyZone : GoodIn wsX7_zone (wsV RX7 232 RX7 yX7_whyZone wsX7_whyZone) := goodIn_app (goodIn_of _ (by decide +kernel)) ggX7_zone_X7_whyZone
set_option maxRecDepth 20000 in
theorem ggX7_zone_X7_refuses : GoodIn wsX7_zone wsX7_refuses := goodIn_r _ [52, 53, 54, 55, 56, 57, 58, 59, 60, 61, 62, 63, 64, 65, 66, 67, 68, 69, 70, 71, 72, 73, 74] (by decide +kernel) (by decide +kernel)
set_option maxRecDepth 20000 in
theorem gX7_zone_X7_refuses : GoodIn wsX7_zone (wsV RX7 223 RX7 yX7_refuses wsX7_refuses) := goodIn_app (goodIn_of _ (by decide +kernel)) ggX7_zone_X7_refuses
theorem dX7_zone_0 : decode cX7_zone 0 = .ok (.aload_n 0, 1) := by decide +kernel
theorem dX7_zone_1 : decode cX7_zone 1 = .ok (.iconst 0, 1) := by decide +kernel
theorem dX7_zone_2 : decode cX7_zone 2 = .ok (.putfield 49, 3) := by decide +kernel
theorem dX7_zone_5 : decode cX7_zone 5 = .ok (.aload_n 0, 1) := by decide +kernel
theorem dX7_zone_6 : decode cX7_zone 6 = .ok (.iload_n 1, 1) := by decide +kernel
theorem dX7_zone_7 : decode cX7_zone 7 = .ok (.iload_n 2, 1) := by decide +kernel
theorem dX7_zone_8 : decode cX7_zone 8 = .ok (.iload_n 3, 1) := by decide +kernel
theorem dX7_zone_9 : decode cX7_zone 9 = .ok (.invokevirtual 232, 3) := by decide +kernel
theorem dX7_zone_12 : decode cX7_zone 12 = .ok (.istore 4, 2) := by decide +kernel
theorem dX7_zone_14 : decode cX7_zone 14 = .ok (.iload 4, 2) := by decide +kernel
theorem dX7_zone_16 : decode cX7_zone 16 = .ok (.iconst (-1), 1) := by decide +kernel
theorem dX7_zone_17 : decode cX7_zone 17 = .ok (.if_icmp .eq 10, 3) := by decide +kernel
theorem dX7_zone_20 : decode cX7_zone 20 = .ok (.aload_n 0, 1) := by decide +kernel
theorem dX7_zone_21 : decode cX7_zone 21 = .ok (.iload 4, 2) := by decide +kernel
theorem dX7_zone_23 : decode cX7_zone 23 = .ok (.invokevirtual 223, 3) := by decide +kernel
theorem dX7_zone_26 : decode cX7_zone 26 = .ok (.ireturn, 1) := by decide +kernel
set_option maxRecDepth 20000 in
theorem ggX7_probe_X7_isLane : GoodIn wsX7_probe wsX7_isLane := goodIn_r _ [6, 7, 8, 9, 5, 10, 11, 12, 13, 14, 15, 16, 17, 18, 19, 48, 49, 50, 51, 52, 53, 54, 55, 56, 57, 58, 59, 60, 61, 62, 63, 64, 65, 66, 67, 68] (by decide +kernel) (by decide +kernel)
set_option maxRecDepth 20000 in
theorem gX7_probe_X7_isLane : GoodIn wsX7_probe (wsV RX7 229 RX7 yX7_isLane wsX7_isLane) := goodIn_app (goodIn_of _ (by decide +kernel)) ggX7_probe_X7_isLane
set_option maxRecDepth 20000 in
theorem ggX7_probe_X7_refuses : GoodIn wsX7_probe wsX7_refuses := goodIn_r _ [23, 24, 48, 49, 50, 51, 52, 53, 54, 55, 56, 57, 58, 59, 60, 61, 62, 63, 64, 65, 66, 67, 68] (by decide +kernel) (by decide +kernel)
set_option maxRecDepth 20000 in
theorem gX7_probe_X7_refuses : GoodIn wsX7_probe (wsV RX7 223 RX7 yX7_refuses wsX7_refuses) := goodIn_app (goodIn_of _ (by decide +kernel)) ggX7_probe_X7_refuses
theorem dX7_probe_0 : decode cX7_probe 0 = .ok (.aload_n 0, 1) := by decide +kernel
theorem dX7_probe_1 : decode cX7_probe 1 = .ok (.iconst 0, 1) := by decide +kernel
theorem dX7_probe_2 : decode cX7_probe 2 = .ok (.putfield 49, 3) := by decide +kernel
theorem dX7_probe_5 : decode cX7_probe 5 = .ok (.aload_n 0, 1) := by decide +kernel
theorem dX7_probe_6 : decode cX7_probe 6 = .ok (.iload_n 1, 1) := by decide +kernel
theorem dX7_probe_7 : decode cX7_probe 7 = .ok (.iload_n 2, 1) := by decide +kernel
theorem dX7_probe_8 : decode cX7_probe 8 = .ok (.invokevirtual 229, 3) := by decide +kernel
theorem dX7_probe_11 : decode cX7_probe 11 = .ok (.ifCond .ne 9, 3) := by decide +kernel
theorem dX7_probe_14 : decode cX7_probe 14 = .ok (.aload_n 0, 1) := by decide +kernel
theorem dX7_probe_15 : decode cX7_probe 15 = .ok (.iconst 0, 1) := by decide +kernel
theorem dX7_probe_16 : decode cX7_probe 16 = .ok (.invokevirtual 223, 3) := by decide +kernel
theorem dX7_probe_19 : decode cX7_probe 19 = .ok (.ireturn, 1) := by decide +kernel
set_option maxRecDepth 20000 in
theorem ggX7_status_X7_in : GoodIn wsX7_status wsX7_in := goodIn_r _ [6] (by decide +kernel) (by decide +kernel)
set_option maxRecDepth 20000 in
theorem gX7_status_X7_in : GoodIn wsX7_status (va_wsS RX7 60 yX7_in wsX7_in) := goodIn_app (goodIn_of _ (by decide +kernel)) ggX7_status_X7_in
theorem dX7_status_0 : decode cX7_status 0 = .ok (.aload_n 0, 1) := by decide +kernel
theorem dX7_status_1 : decode cX7_status 1 = .ok (.iconst 0, 1) := by decide +kernel
theorem dX7_status_2 : decode cX7_status 2 = .ok (.putfield 49, 3) := by decide +kernel
theorem dX7_status_5 : decode cX7_status 5 = .ok (.iload_n 1, 1) := by decide +kernel
theorem dX7_status_6 : decode cX7_status 6 = .ok (.iconst 0, 1) := by decide +kernel
theorem dX7_status_7 : decode cX7_status 7 = .ok (.iconst 3, 1) := by decide +kernel
theorem dX7_status_8 : decode cX7_status 8 = .ok (.invokestatic 60, 3) := by decide +kernel
theorem dX7_status_11 : decode cX7_status 11 = .ok (.ifCond .eq 12, 3) := by decide +kernel
theorem dX7_status_14 : decode cX7_status 14 = .ok (.aload_n 0, 1) := by decide +kernel
theorem dX7_status_15 : decode cX7_status 15 = .ok (.getfield 25, 3) := by decide +kernel
theorem dX7_status_18 : decode cX7_status 18 = .ok (.iload_n 1, 1) := by decide +kernel
theorem dX7_status_19 : decode cX7_status 19 = .ok (.iaload, 1) := by decide +kernel
theorem dX7_status_20 : decode cX7_status 20 = .ok (.goto 4, 3) := by decide +kernel
theorem dX7_status_23 : decode cX7_status 23 = .ok (.iconst (-1), 1) := by decide +kernel
theorem dX7_status_24 : decode cX7_status 24 = .ok (.ireturn, 1) := by decide +kernel
set_option maxRecDepth 20000 in
theorem ggX7_rule_X7_isNet : GoodIn wsX7_rule wsX7_isNet := goodIn_r _ [11, 3, 15, 16, 17, 18, 19, 20, 21, 22, 23, 24, 25, 26, 27, 28, 29, 30, 31, 32, 33, 34, 35] (by decide +kernel) (by decide +kernel)
set_option maxRecDepth 20000 in
theorem gX7_rule_X7_isNet : GoodIn wsX7_rule (wsV RX7 136 RX7 yX7_isNet wsX7_isNet) := goodIn_app (goodIn_of _ (by decide +kernel)) ggX7_rule_X7_isNet
theorem dX7_rule_0 : decode cX7_rule 0 = .ok (.aload_n 0, 1) := by decide +kernel
theorem dX7_rule_1 : decode cX7_rule 1 = .ok (.iconst 0, 1) := by decide +kernel
theorem dX7_rule_2 : decode cX7_rule 2 = .ok (.putfield 49, 3) := by decide +kernel
theorem dX7_rule_5 : decode cX7_rule 5 = .ok (.aload_n 0, 1) := by decide +kernel
theorem dX7_rule_6 : decode cX7_rule 6 = .ok (.invokevirtual 136, 3) := by decide +kernel
theorem dX7_rule_9 : decode cX7_rule 9 = .ok (.ifCond .eq 12, 3) := by decide +kernel
theorem dX7_rule_21 : decode cX7_rule 21 = .ok (.ldc 236, 2) := by decide +kernel
theorem dX7_rule_23 : decode cX7_rule 23 = .ok (.ireturn, 1) := by decide +kernel
set_option maxRecDepth 20000 in
theorem ggX7_hop_X7_isHop : GoodIn wsX7_hop wsX7_isHop := goodIn_r _ [8, 9, 10, 11, 7, 12, 25, 26, 27, 28, 29, 30, 31, 32, 33, 34, 35, 36, 37, 38, 39, 40, 41, 42, 43, 44, 45] (by decide +kernel) (by decide +kernel)
set_option maxRecDepth 20000 in
theorem gX7_hop_X7_isHop : GoodIn wsX7_hop (wsV RX7 130 RX7 yX7_isHop wsX7_isHop) := goodIn_app (goodIn_of _ (by decide +kernel)) ggX7_hop_X7_isHop
theorem dX7_hop_0 : decode cX7_hop 0 = .ok (.aload_n 0, 1) := by decide +kernel
theorem dX7_hop_1 : decode cX7_hop 1 = .ok (.aload_n 0, 1) := by decide +kernel
theorem dX7_hop_2 : decode cX7_hop 2 = .ok (.iload_n 1, 1) := by decide +kernel
theorem dX7_hop_3 : decode cX7_hop 3 = .ok (.invokevirtual 130, 3) := by decide +kernel
theorem dX7_hop_6 : decode cX7_hop 6 = .ok (.ifCond .eq 17, 3) := by decide +kernel
theorem dX7_hop_23 : decode cX7_hop 23 = .ok (.iconst 1, 1) := by decide +kernel
theorem dX7_hop_24 : decode cX7_hop 24 = .ok (.putfield 49, 3) := by decide +kernel
theorem dX7_hop_27 : decode cX7_hop 27 = .ok (.aload_n 0, 1) := by decide +kernel
theorem dX7_hop_28 : decode cX7_hop 28 = .ok (.getfield 49, 3) := by decide +kernel
theorem dX7_hop_31 : decode cX7_hop 31 = .ok (.iconst 1, 1) := by decide +kernel
theorem dX7_hop_32 : decode cX7_hop 32 = .ok (.if_icmp .ne 5, 3) := by decide +kernel
theorem dX7_hop_35 : decode cX7_hop 35 = .ok (.iconst 0, 1) := by decide +kernel
theorem dX7_hop_36 : decode cX7_hop 36 = .ok (.ireturn, 1) := by decide +kernel
set_option maxRecDepth 20000 in
theorem ggX7_circuit_X7_isCircuit : GoodIn wsX7_circuit wsX7_isCircuit := goodIn_r _ [7, 8, 9, 10, 6, 11, 19, 20, 21, 22, 23, 24, 25, 26, 27, 28, 29, 30, 31, 32, 33, 34, 35, 36, 37, 38, 39] (by decide +kernel) (by decide +kernel)
set_option maxRecDepth 20000 in
theorem gX7_circuit_X7_isCircuit : GoodIn wsX7_circuit (wsV RX7 133 RX7 yX7_isCircuit wsX7_isCircuit) := goodIn_app (goodIn_of _ (by decide +kernel)) ggX7_circuit_X7_isCircuit
theorem dX7_circuit_0 : decode cX7_circuit 0 = .ok (.aload_n 0, 1) := by decide +kernel
theorem dX7_circuit_1 : decode cX7_circuit 1 = .ok (.aload_n 0, 1) := by decide +kernel
theorem dX7_circuit_2 : decode cX7_circuit 2 = .ok (.iload_n 1, 1) := by decide +kernel
theorem dX7_circuit_3 : decode cX7_circuit 3 = .ok (.invokevirtual 133, 3) := by decide +kernel
theorem dX7_circuit_6 : decode cX7_circuit 6 = .ok (.ifCond .eq 17, 3) := by decide +kernel
theorem dX7_circuit_23 : decode cX7_circuit 23 = .ok (.iconst 1, 1) := by decide +kernel
theorem dX7_circuit_24 : decode cX7_circuit 24 = .ok (.putfield 49, 3) := by decide +kernel
theorem dX7_circuit_27 : decode cX7_circuit 27 = .ok (.aload_n 0, 1) := by decide +kernel
theorem dX7_circuit_28 : decode cX7_circuit 28 = .ok (.getfield 49, 3) := by decide +kernel
theorem dX7_circuit_31 : decode cX7_circuit 31 = .ok (.iconst 1, 1) := by decide +kernel
theorem dX7_circuit_32 : decode cX7_circuit 32 = .ok (.if_icmp .ne 5, 3) := by decide +kernel
theorem dX7_circuit_35 : decode cX7_circuit 35 = .ok (.iconst 0, 1) := by decide +kernel
theorem dX7_circuit_36 : decode cX7_circuit 36 = .ok (.ireturn, 1) := by decide +kernel
set_option maxRecDepth 20000 in
theorem ggX7_lane__X7_isLane : GoodIn wsX7_lane_ wsX7_isLane := goodIn_r _ [6, 7, 8, 9, 5, 10, 11, 12, 13, 14, 15, 16, 17, 18, 19, 50, 51, 52, 53, 54, 55, 56, 57, 58, 59, 60, 61, 62, 63, 64, 65, 66, 67, 68, 69, 70] (by decide +kernel) (by decide +kernel)
set_option maxRecDepth 20000 in
theorem gX7_lane__X7_isLane : GoodIn wsX7_lane_ (wsV RX7 229 RX7 yX7_isLane wsX7_isLane) := goodIn_app (goodIn_of _ (by decide +kernel)) ggX7_lane__X7_isLane
theorem dX7_lane__0 : decode cX7_lane_ 0 = .ok (.aload_n 0, 1) := by decide +kernel
theorem dX7_lane__1 : decode cX7_lane_ 1 = .ok (.iconst 0, 1) := by decide +kernel
theorem dX7_lane__2 : decode cX7_lane_ 2 = .ok (.putfield 49, 3) := by decide +kernel
theorem dX7_lane__5 : decode cX7_lane_ 5 = .ok (.aload_n 0, 1) := by decide +kernel
theorem dX7_lane__6 : decode cX7_lane_ 6 = .ok (.iload_n 1, 1) := by decide +kernel
theorem dX7_lane__7 : decode cX7_lane_ 7 = .ok (.iload_n 2, 1) := by decide +kernel
theorem dX7_lane__8 : decode cX7_lane_ 8 = .ok (.invokevirtual 229, 3) := by decide +kernel
theorem dX7_lane__11 : decode cX7_lane_ 11 = .ok (.ifCond .eq 23, 3) := by decide +kernel
theorem dX7_lane__34 : decode cX7_lane_ 34 = .ok (.iconst (-1), 1) := by decide +kernel
theorem dX7_lane__35 : decode cX7_lane_ 35 = .ok (.ireturn, 1) := by decide +kernel
set_option maxRecDepth 20000 in
theorem ggX7_buffer_X7_isNode : GoodIn wsX7_buffer wsX7_isNode := goodIn_r _ [7, 8, 9, 10, 11, 6, 12, 13, 14, 15, 24, 25, 26, 27, 28, 29, 30, 31, 32, 33, 34, 35, 36, 37, 38, 39, 40, 41, 42, 43, 44] (by decide +kernel) (by decide +kernel)
set_option maxRecDepth 20000 in
theorem gX7_buffer_X7_isNode : GoodIn wsX7_buffer (wsV RX7 250 RX7 yX7_isNode wsX7_isNode) := goodIn_app (goodIn_of _ (by decide +kernel)) ggX7_buffer_X7_isNode
theorem dX7_buffer_0 : decode cX7_buffer 0 = .ok (.aload_n 0, 1) := by decide +kernel
theorem dX7_buffer_1 : decode cX7_buffer 1 = .ok (.iconst 0, 1) := by decide +kernel
theorem dX7_buffer_2 : decode cX7_buffer 2 = .ok (.putfield 49, 3) := by decide +kernel
theorem dX7_buffer_5 : decode cX7_buffer 5 = .ok (.aload_n 0, 1) := by decide +kernel
theorem dX7_buffer_6 : decode cX7_buffer 6 = .ok (.iload_n 1, 1) := by decide +kernel
theorem dX7_buffer_7 : decode cX7_buffer 7 = .ok (.invokevirtual 250, 3) := by decide +kernel
theorem dX7_buffer_10 : decode cX7_buffer 10 = .ok (.ifCond .eq 24, 3) := by decide +kernel
theorem dX7_buffer_34 : decode cX7_buffer 34 = .ok (.iconst (-1), 1) := by decide +kernel
theorem dX7_buffer_35 : decode cX7_buffer 35 = .ok (.ireturn, 1) := by decide +kernel
set_option maxRecDepth 20000 in
theorem ggX7_way_X7_isHop : GoodIn wsX7_way wsX7_isHop := goodIn_r _ [7, 8, 9, 10, 6, 11, 15, 16, 17, 18, 19, 20, 21, 22, 23, 24, 25, 26, 27, 28, 29, 30, 31, 32, 33, 34, 35] (by decide +kernel) (by decide +kernel)
set_option maxRecDepth 20000 in
theorem gX7_way_X7_isHop : GoodIn wsX7_way (wsV RX7 130 RX7 yX7_isHop wsX7_isHop) := goodIn_app (goodIn_of _ (by decide +kernel)) ggX7_way_X7_isHop
theorem dX7_way_0 : decode cX7_way 0 = .ok (.aload_n 0, 1) := by decide +kernel
theorem dX7_way_1 : decode cX7_way 1 = .ok (.iconst 0, 1) := by decide +kernel
theorem dX7_way_2 : decode cX7_way 2 = .ok (.putfield 49, 3) := by decide +kernel
theorem dX7_way_5 : decode cX7_way 5 = .ok (.aload_n 0, 1) := by decide +kernel
theorem dX7_way_6 : decode cX7_way 6 = .ok (.iload_n 1, 1) := by decide +kernel
theorem dX7_way_7 : decode cX7_way 7 = .ok (.invokevirtual 130, 3) := by decide +kernel
theorem dX7_way_10 : decode cX7_way 10 = .ok (.ifCond .eq 21, 3) := by decide +kernel
theorem dX7_way_31 : decode cX7_way 31 = .ok (.iconst (-1), 1) := by decide +kernel
theorem dX7_way_32 : decode cX7_way 32 = .ok (.ireturn, 1) := by decide +kernel
set_option maxRecDepth 20000 in
theorem ggX7_isSpan_X7_in : GoodIn wsX7_isSpan wsX7_in := goodIn_r _ [4] (by decide +kernel) (by decide +kernel)
set_option maxRecDepth 20000 in
theorem gX7_isSpan_X7_in : GoodIn wsX7_isSpan (va_wsS RX7 60 yX7_in wsX7_in) := goodIn_app (goodIn_of _ (by decide +kernel)) ggX7_isSpan_X7_in
theorem dX7_isSpan_0 : decode cX7_isSpan 0 = .ok (.iload_n 0, 1) := by decide +kernel
theorem dX7_isSpan_1 : decode cX7_isSpan 1 = .ok (.iload_n 1, 1) := by decide +kernel
theorem dX7_isSpan_2 : decode cX7_isSpan 2 = .ok (.sipush 200, 3) := by decide +kernel
theorem dX7_isSpan_5 : decode cX7_isSpan 5 = .ok (.invokestatic 60, 3) := by decide +kernel
theorem dX7_isSpan_8 : decode cX7_isSpan 8 = .ok (.ireturn, 1) := by decide +kernel
set_option maxRecDepth 20000 in
theorem ggX7_laneAhead_X7_isLane : GoodIn wsX7_laneAhead wsX7_isLane := goodIn_r _ [6, 7, 8, 9, 5, 10, 11, 12, 13, 14, 15, 16, 17, 18, 19, 149, 150, 151, 152, 153, 154, 155, 156, 157, 158, 159, 160, 161, 162, 163, 164, 165, 166, 167, 168, 169] (by decide +kernel) (by decide +kernel)
set_option maxRecDepth 20000 in
theorem gX7_laneAhead_X7_isLane : GoodIn wsX7_laneAhead (wsV RX7 229 RX7 yX7_isLane wsX7_isLane) := goodIn_app (goodIn_of _ (by decide +kernel)) ggX7_laneAhead_X7_isLane
theorem dX7_laneAhead_0 : decode cX7_laneAhead 0 = .ok (.aload_n 0, 1) := by decide +kernel
theorem dX7_laneAhead_1 : decode cX7_laneAhead 1 = .ok (.iconst 0, 1) := by decide +kernel
theorem dX7_laneAhead_2 : decode cX7_laneAhead 2 = .ok (.putfield 49, 3) := by decide +kernel
theorem dX7_laneAhead_5 : decode cX7_laneAhead 5 = .ok (.aload_n 0, 1) := by decide +kernel
theorem dX7_laneAhead_6 : decode cX7_laneAhead 6 = .ok (.iload_n 1, 1) := by decide +kernel
theorem dX7_laneAhead_7 : decode cX7_laneAhead 7 = .ok (.iload_n 2, 1) := by decide +kernel
theorem dX7_laneAhead_8 : decode cX7_laneAhead 8 = .ok (.invokevirtual 229, 3) := by decide +kernel
theorem dX7_laneAhead_11 : decode cX7_laneAhead 11 = .ok (.ifCond .eq 22, 3) := by decide +kernel
theorem dX7_laneAhead_33 : decode cX7_laneAhead 33 = .ok (.iconst (-1), 1) := by decide +kernel
theorem dX7_laneAhead_34 : decode cX7_laneAhead 34 = .ok (.ireturn, 1) := by decide +kernel
set_option maxRecDepth 20000 in
theorem ggX7_bufferAhead_X7_isNode : GoodIn wsX7_bufferAhead wsX7_isNode := goodIn_r _ [7, 8, 9, 10, 11, 6, 12, 13, 14, 15, 141, 142, 143, 144, 145, 146, 147, 148, 149, 150, 151, 152, 153, 154, 155, 156, 157, 158, 159, 160, 161] (by decide +kernel) (by decide +kernel)
set_option maxRecDepth 20000 in
theorem gX7_bufferAhead_X7_isNode : GoodIn wsX7_bufferAhead (wsV RX7 250 RX7 yX7_isNode wsX7_isNode) := goodIn_app (goodIn_of _ (by decide +kernel)) ggX7_bufferAhead_X7_isNode
theorem dX7_bufferAhead_0 : decode cX7_bufferAhead 0 = .ok (.aload_n 0, 1) := by decide +kernel
theorem dX7_bufferAhead_1 : decode cX7_bufferAhead 1 = .ok (.iconst 0, 1) := by decide +kernel
theorem dX7_bufferAhead_2 : decode cX7_bufferAhead 2 = .ok (.putfield 49, 3) := by decide +kernel
theorem dX7_bufferAhead_5 : decode cX7_bufferAhead 5 = .ok (.aload_n 0, 1) := by decide +kernel
theorem dX7_bufferAhead_6 : decode cX7_bufferAhead 6 = .ok (.iload_n 1, 1) := by decide +kernel
theorem dX7_bufferAhead_7 : decode cX7_bufferAhead 7 = .ok (.invokevirtual 250, 3) := by decide +kernel
theorem dX7_bufferAhead_10 : decode cX7_bufferAhead 10 = .ok (.ifCond .eq 19, 3) := by decide +kernel
theorem dX7_bufferAhead_29 : decode cX7_bufferAhead 29 = .ok (.iconst (-1), 1) := by decide +kernel
theorem dX7_bufferAhead_30 : decode cX7_bufferAhead 30 = .ok (.ireturn, 1) := by decide +kernel
set_option maxRecDepth 20000 in
theorem ggX7_delivered_X7_isNet : GoodIn wsX7_delivered wsX7_isNet := goodIn_r _ [6, 7, 145, 146, 147, 148, 149, 150, 151, 152, 153, 154, 155, 156, 157, 158, 159, 160, 161, 162, 163, 164, 165] (by decide +kernel) (by decide +kernel)
set_option maxRecDepth 20000 in
theorem gX7_delivered_X7_isNet : GoodIn wsX7_delivered (wsV RX7 136 RX7 yX7_isNet wsX7_isNet) := goodIn_app (goodIn_of _ (by decide +kernel)) ggX7_delivered_X7_isNet
theorem dX7_delivered_0 : decode cX7_delivered 0 = .ok (.aload_n 0, 1) := by decide +kernel
theorem dX7_delivered_1 : decode cX7_delivered 1 = .ok (.iconst 0, 1) := by decide +kernel
theorem dX7_delivered_2 : decode cX7_delivered 2 = .ok (.putfield 49, 3) := by decide +kernel
theorem dX7_delivered_5 : decode cX7_delivered 5 = .ok (.aload_n 0, 1) := by decide +kernel
theorem dX7_delivered_6 : decode cX7_delivered 6 = .ok (.invokevirtual 136, 3) := by decide +kernel
theorem dX7_delivered_9 : decode cX7_delivered 9 = .ok (.ifCond .eq 24, 3) := by decide +kernel
theorem dX7_delivered_33 : decode cX7_delivered 33 = .ok (.iconst (-1), 1) := by decide +kernel
theorem dX7_delivered_34 : decode cX7_delivered 34 = .ok (.ireturn, 1) := by decide +kernel
set_option maxRecDepth 20000 in
theorem ggX7_heldUp_X7_isLane : GoodIn wsX7_heldUp wsX7_isLane := goodIn_r _ [7, 8, 9, 10, 6, 11, 12, 13, 14, 15, 16, 17, 18, 19, 20, 134, 135, 136, 137, 138, 139, 140, 141, 142, 143, 144, 145, 146, 147, 148, 149, 150, 151, 152, 153, 154] (by decide +kernel) (by decide +kernel)
set_option maxRecDepth 20000 in
theorem gX7_heldUp_X7_isLane : GoodIn wsX7_heldUp (wsV RX7 229 RX7 yX7_isLane wsX7_isLane) := goodIn_app (goodIn_of _ (by decide +kernel)) ggX7_heldUp_X7_isLane
theorem dX7_heldUp_0 : decode cX7_heldUp 0 = .ok (.aload_n 0, 1) := by decide +kernel
theorem dX7_heldUp_1 : decode cX7_heldUp 1 = .ok (.iconst 0, 1) := by decide +kernel
theorem dX7_heldUp_2 : decode cX7_heldUp 2 = .ok (.putfield 49, 3) := by decide +kernel
theorem dX7_heldUp_5 : decode cX7_heldUp 5 = .ok (.aload_n 0, 1) := by decide +kernel
theorem dX7_heldUp_6 : decode cX7_heldUp 6 = .ok (.iload_n 1, 1) := by decide +kernel
theorem dX7_heldUp_7 : decode cX7_heldUp 7 = .ok (.iload_n 2, 1) := by decide +kernel
theorem dX7_heldUp_8 : decode cX7_heldUp 8 = .ok (.invokevirtual 229, 3) := by decide +kernel
theorem dX7_heldUp_11 : decode cX7_heldUp 11 = .ok (.ifCond .ne 5, 3) := by decide +kernel
theorem dX7_heldUp_14 : decode cX7_heldUp 14 = .ok (.iconst (-1), 1) := by decide +kernel
theorem dX7_heldUp_15 : decode cX7_heldUp 15 = .ok (.ireturn, 1) := by decide +kernel
set_option maxRecDepth 20000 in
theorem ggX7_idle_X7_isHop : GoodIn wsX7_idle wsX7_isHop := goodIn_r _ [6, 7, 8, 9, 5, 10, 137, 138, 139, 140, 141, 142, 143, 144, 145, 146, 147, 148, 149, 150, 151, 152, 153, 154, 155, 156, 157] (by decide +kernel) (by decide +kernel)
set_option maxRecDepth 20000 in
theorem gX7_idle_X7_isHop : GoodIn wsX7_idle (wsV RX7 130 RX7 yX7_isHop wsX7_isHop) := goodIn_app (goodIn_of _ (by decide +kernel)) ggX7_idle_X7_isHop
theorem dX7_idle_0 : decode cX7_idle 0 = .ok (.aload_n 0, 1) := by decide +kernel
theorem dX7_idle_1 : decode cX7_idle 1 = .ok (.iconst 0, 1) := by decide +kernel
theorem dX7_idle_2 : decode cX7_idle 2 = .ok (.putfield 49, 3) := by decide +kernel
theorem dX7_idle_5 : decode cX7_idle 5 = .ok (.aload_n 0, 1) := by decide +kernel
theorem dX7_idle_6 : decode cX7_idle 6 = .ok (.iload_n 1, 1) := by decide +kernel
theorem dX7_idle_7 : decode cX7_idle 7 = .ok (.invokevirtual 130, 3) := by decide +kernel
theorem dX7_idle_10 : decode cX7_idle 10 = .ok (.ifCond .eq 20, 3) := by decide +kernel
theorem dX7_idle_30 : decode cX7_idle 30 = .ok (.iconst (-1), 1) := by decide +kernel
theorem dX7_idle_31 : decode cX7_idle 31 = .ok (.ireturn, 1) := by decide +kernel
set_option maxRecDepth 20000 in
theorem ggX7_busiest_X7_isNet : GoodIn wsX7_busiest wsX7_isNet := goodIn_r _ [7, 2, 137, 138, 139, 140, 141, 142, 143, 144, 145, 146, 147, 148, 149, 150, 151, 152, 153, 154, 155, 156, 157] (by decide +kernel) (by decide +kernel)
set_option maxRecDepth 20000 in
theorem gX7_busiest_X7_isNet : GoodIn wsX7_busiest (wsV RX7 136 RX7 yX7_isNet wsX7_isNet) := goodIn_app (goodIn_of _ (by decide +kernel)) ggX7_busiest_X7_isNet
theorem dX7_busiest_0 : decode cX7_busiest 0 = .ok (.aload_n 0, 1) := by decide +kernel
theorem dX7_busiest_1 : decode cX7_busiest 1 = .ok (.iconst 0, 1) := by decide +kernel
theorem dX7_busiest_2 : decode cX7_busiest 2 = .ok (.putfield 49, 3) := by decide +kernel
theorem dX7_busiest_5 : decode cX7_busiest 5 = .ok (.aload_n 0, 1) := by decide +kernel
theorem dX7_busiest_6 : decode cX7_busiest 6 = .ok (.invokevirtual 136, 3) := by decide +kernel
theorem dX7_busiest_9 : decode cX7_busiest 9 = .ok (.ifCond .eq 11, 3) := by decide +kernel
theorem dX7_busiest_20 : decode cX7_busiest 20 = .ok (.iconst (-1), 1) := by decide +kernel
theorem dX7_busiest_21 : decode cX7_busiest 21 = .ok (.ireturn, 1) := by decide +kernel
set_option maxRecDepth 20000 in
theorem ggX7_most_X7_isNode : GoodIn wsX7_most wsX7_isNode := goodIn_r _ [10, 11, 12, 13, 14, 9, 15, 16, 17, 18, 145, 146, 147, 148, 149, 150, 151, 152, 153, 154, 155, 156, 157, 158, 159, 160, 161, 162, 163, 164, 165] (by decide +kernel) (by decide +kernel)
set_option maxRecDepth 20000 in
theorem gX7_most_X7_isNode : GoodIn wsX7_most (wsV RX7 250 RX7 yX7_isNode wsX7_isNode) := goodIn_app (goodIn_of _ (by decide +kernel)) ggX7_most_X7_isNode
theorem dX7_most_0 : decode cX7_most 0 = .ok (.aload_n 0, 1) := by decide +kernel
theorem dX7_most_1 : decode cX7_most 1 = .ok (.iconst 0, 1) := by decide +kernel
theorem dX7_most_2 : decode cX7_most 2 = .ok (.putfield 49, 3) := by decide +kernel
theorem dX7_most_5 : decode cX7_most 5 = .ok (.aload_n 0, 1) := by decide +kernel
theorem dX7_most_6 : decode cX7_most 6 = .ok (.iload_n 1, 1) := by decide +kernel
theorem dX7_most_7 : decode cX7_most 7 = .ok (.invokevirtual 250, 3) := by decide +kernel
theorem dX7_most_10 : decode cX7_most 10 = .ok (.ifCond .eq 38, 3) := by decide +kernel
theorem dX7_most_48 : decode cX7_most 48 = .ok (.iconst (-1), 1) := by decide +kernel
theorem dX7_most_49 : decode cX7_most 49 = .ok (.ireturn, 1) := by decide +kernel
set_option maxRecDepth 20000 in
theorem ggX7_healed_X7_isNet : GoodIn wsX7_healed wsX7_isNet := goodIn_r _ [6, 7, 84, 85, 86, 87, 88, 89, 90, 91, 92, 93, 94, 95, 96, 97, 98, 99, 100, 101, 102, 103, 104] (by decide +kernel) (by decide +kernel)
set_option maxRecDepth 20000 in
theorem gX7_healed_X7_isNet : GoodIn wsX7_healed (wsV RX7 136 RX7 yX7_isNet wsX7_isNet) := goodIn_app (goodIn_of _ (by decide +kernel)) ggX7_healed_X7_isNet
theorem dX7_healed_0 : decode cX7_healed 0 = .ok (.aload_n 0, 1) := by decide +kernel
theorem dX7_healed_1 : decode cX7_healed 1 = .ok (.iconst 0, 1) := by decide +kernel
theorem dX7_healed_2 : decode cX7_healed 2 = .ok (.putfield 49, 3) := by decide +kernel
theorem dX7_healed_5 : decode cX7_healed 5 = .ok (.aload_n 0, 1) := by decide +kernel
theorem dX7_healed_6 : decode cX7_healed 6 = .ok (.invokevirtual 136, 3) := by decide +kernel
theorem dX7_healed_9 : decode cX7_healed 9 = .ok (.ifCond .ne 5, 3) := by decide +kernel
theorem dX7_healed_12 : decode cX7_healed 12 = .ok (.iconst (-1), 1) := by decide +kernel
theorem dX7_healed_13 : decode cX7_healed 13 = .ok (.ireturn, 1) := by decide +kernel
set_option maxRecDepth 20000 in
theorem ggX7_loss_X7_isNet : GoodIn wsX7_loss wsX7_isNet := goodIn_r _ [7, 8, 150, 151, 152, 153, 154, 155, 156, 157, 158, 159, 160, 161, 162, 163, 164, 165, 166, 167, 168, 169, 170] (by decide +kernel) (by decide +kernel)
set_option maxRecDepth 20000 in
theorem gX7_loss_X7_isNet : GoodIn wsX7_loss (wsV RX7 136 RX7 yX7_isNet wsX7_isNet) := goodIn_app (goodIn_of _ (by decide +kernel)) ggX7_loss_X7_isNet
theorem dX7_loss_0 : decode cX7_loss 0 = .ok (.aload_n 0, 1) := by decide +kernel
theorem dX7_loss_1 : decode cX7_loss 1 = .ok (.iconst 0, 1) := by decide +kernel
theorem dX7_loss_2 : decode cX7_loss 2 = .ok (.putfield 49, 3) := by decide +kernel
theorem dX7_loss_5 : decode cX7_loss 5 = .ok (.aload_n 0, 1) := by decide +kernel
theorem dX7_loss_6 : decode cX7_loss 6 = .ok (.invokevirtual 136, 3) := by decide +kernel
theorem dX7_loss_9 : decode cX7_loss 9 = .ok (.ifCond .eq 30, 3) := by decide +kernel
theorem dX7_loss_39 : decode cX7_loss 39 = .ok (.ldc 236, 2) := by decide +kernel
theorem dX7_loss_41 : decode cX7_loss 41 = .ok (.ireturn, 1) := by decide +kernel
set_option maxRecDepth 20000 in
theorem ggX7_bears_X7_isNet : GoodIn wsX7_bears wsX7_isNet := goodIn_r _ [6, 7, 149, 150, 151, 152, 153, 154, 155, 156, 157, 158, 159, 160, 161, 162, 163, 164, 165, 166, 167, 168, 169] (by decide +kernel) (by decide +kernel)
set_option maxRecDepth 20000 in
theorem gX7_bears_X7_isNet : GoodIn wsX7_bears (wsV RX7 136 RX7 yX7_isNet wsX7_isNet) := goodIn_app (goodIn_of _ (by decide +kernel)) ggX7_bears_X7_isNet
theorem dX7_bears_0 : decode cX7_bears 0 = .ok (.aload_n 0, 1) := by decide +kernel
theorem dX7_bears_1 : decode cX7_bears 1 = .ok (.iconst 0, 1) := by decide +kernel
theorem dX7_bears_2 : decode cX7_bears 2 = .ok (.putfield 49, 3) := by decide +kernel
theorem dX7_bears_5 : decode cX7_bears 5 = .ok (.aload_n 0, 1) := by decide +kernel
theorem dX7_bears_6 : decode cX7_bears 6 = .ok (.invokevirtual 136, 3) := by decide +kernel
theorem dX7_bears_9 : decode cX7_bears 9 = .ok (.ifCond .eq 11, 3) := by decide +kernel
theorem dX7_bears_20 : decode cX7_bears 20 = .ok (.iconst (-1), 1) := by decide +kernel
theorem dX7_bears_21 : decode cX7_bears 21 = .ok (.ireturn, 1) := by decide +kernel
set_option maxRecDepth 20000 in
theorem ggX7_fair_X7_isNet : GoodIn wsX7_fair wsX7_isNet := goodIn_r _ [14, 15, 141, 142, 143, 144, 145, 146, 147, 148, 149, 150, 151, 152, 153, 154, 155, 156, 157, 158, 159, 160, 161] (by decide +kernel) (by decide +kernel)
set_option maxRecDepth 20000 in
theorem gX7_fair_X7_isNet : GoodIn wsX7_fair (wsV RX7 136 RX7 yX7_isNet wsX7_isNet) := goodIn_app (goodIn_of _ (by decide +kernel)) ggX7_fair_X7_isNet
theorem dX7_fair_0 : decode cX7_fair 0 = .ok (.aload_n 0, 1) := by decide +kernel
theorem dX7_fair_1 : decode cX7_fair 1 = .ok (.iconst 0, 1) := by decide +kernel
theorem dX7_fair_2 : decode cX7_fair 2 = .ok (.putfield 49, 3) := by decide +kernel
theorem dX7_fair_5 : decode cX7_fair 5 = .ok (.aload_n 0, 1) := by decide +kernel
theorem dX7_fair_6 : decode cX7_fair 6 = .ok (.invokevirtual 136, 3) := by decide +kernel
theorem dX7_fair_9 : decode cX7_fair 9 = .ok (.ifCond .eq 11, 3) := by decide +kernel
theorem dX7_fair_20 : decode cX7_fair 20 = .ok (.iconst (-1), 1) := by decide +kernel
theorem dX7_fair_21 : decode cX7_fair 21 = .ok (.ireturn, 1) := by decide +kernel
set_option maxRecDepth 20000 in
theorem ggX7_learns_X7_isLane : GoodIn wsX7_learns wsX7_isLane := goodIn_r _ [7, 8, 9, 10, 6, 11, 12, 13, 14, 15, 16, 17, 18, 19, 20, 134, 135, 136, 137, 138, 139, 140, 141, 142, 143, 144, 145, 146, 147, 148, 149, 150, 151, 152, 153, 154] (by decide +kernel) (by decide +kernel)
set_option maxRecDepth 20000 in
theorem gX7_learns_X7_isLane : GoodIn wsX7_learns (wsV RX7 229 RX7 yX7_isLane wsX7_isLane) := goodIn_app (goodIn_of _ (by decide +kernel)) ggX7_learns_X7_isLane
theorem dX7_learns_0 : decode cX7_learns 0 = .ok (.aload_n 0, 1) := by decide +kernel
theorem dX7_learns_1 : decode cX7_learns 1 = .ok (.iconst 0, 1) := by decide +kernel
theorem dX7_learns_2 : decode cX7_learns 2 = .ok (.putfield 49, 3) := by decide +kernel
theorem dX7_learns_5 : decode cX7_learns 5 = .ok (.aload_n 0, 1) := by decide +kernel
theorem dX7_learns_6 : decode cX7_learns 6 = .ok (.iload_n 1, 1) := by decide +kernel
theorem dX7_learns_7 : decode cX7_learns 7 = .ok (.iload_n 2, 1) := by decide +kernel
theorem dX7_learns_8 : decode cX7_learns 8 = .ok (.invokevirtual 229, 3) := by decide +kernel
theorem dX7_learns_11 : decode cX7_learns 11 = .ok (.ifCond .ne 5, 3) := by decide +kernel
theorem dX7_learns_14 : decode cX7_learns 14 = .ok (.iconst (-1), 1) := by decide +kernel
theorem dX7_learns_15 : decode cX7_learns 15 = .ok (.ireturn, 1) := by decide +kernel
set_option maxRecDepth 20000 in
theorem ggX7_stuck_X7_isNet : GoodIn wsX7_stuck wsX7_isNet := goodIn_r _ [8, 3, 140, 141, 142, 143, 144, 145, 146, 147, 148, 149, 150, 151, 152, 153, 154, 155, 156, 157, 158, 159, 160] (by decide +kernel) (by decide +kernel)
set_option maxRecDepth 20000 in
theorem gX7_stuck_X7_isNet : GoodIn wsX7_stuck (wsV RX7 136 RX7 yX7_isNet wsX7_isNet) := goodIn_app (goodIn_of _ (by decide +kernel)) ggX7_stuck_X7_isNet
theorem dX7_stuck_0 : decode cX7_stuck 0 = .ok (.aload_n 0, 1) := by decide +kernel
theorem dX7_stuck_1 : decode cX7_stuck 1 = .ok (.iconst 0, 1) := by decide +kernel
theorem dX7_stuck_2 : decode cX7_stuck 2 = .ok (.putfield 49, 3) := by decide +kernel
theorem dX7_stuck_5 : decode cX7_stuck 5 = .ok (.aload_n 0, 1) := by decide +kernel
theorem dX7_stuck_6 : decode cX7_stuck 6 = .ok (.invokevirtual 136, 3) := by decide +kernel
theorem dX7_stuck_9 : decode cX7_stuck 9 = .ok (.ifCond .eq 10, 3) := by decide +kernel
theorem dX7_stuck_19 : decode cX7_stuck 19 = .ok (.iconst 0, 1) := by decide +kernel
theorem dX7_stuck_20 : decode cX7_stuck 20 = .ok (.ireturn, 1) := by decide +kernel
set_option maxRecDepth 20000 in
theorem ggX7_would_X7_whyZone : GoodIn wsX7_would wsX7_whyZone := goodIn_r _ [6, 7, 8, 9, 10, 11, 5, 12, 13, 14, 15, 16, 17, 18, 19, 20, 21, 22, 23, 24, 25, 26, 27, 28, 29, 30, 31, 32, 33, 34, 35, 36, 37, 38, 39, 40, 41, 42, 43, 44, 45, 46, 47, 48, 157, 158, 159, 160, 161, 162, 163, 164, 165, 166, 167, 168, 169, 170, 171, 172, 173, 174, 175, 176, 177] (by decide +kernel) (by decide +kernel)
set_option maxRecDepth 20000 in
theorem gX7_would_X7_whyZone : GoodIn wsX7_would (wsV RX7 232 RX7 yX7_whyZone wsX7_whyZone) := goodIn_app (goodIn_of _ (by decide +kernel)) ggX7_would_X7_whyZone
theorem dX7_would_0 : decode cX7_would 0 = .ok (.aload_n 0, 1) := by decide +kernel
theorem dX7_would_1 : decode cX7_would 1 = .ok (.iconst 0, 1) := by decide +kernel
theorem dX7_would_2 : decode cX7_would 2 = .ok (.putfield 49, 3) := by decide +kernel
theorem dX7_would_5 : decode cX7_would 5 = .ok (.aload_n 0, 1) := by decide +kernel
theorem dX7_would_6 : decode cX7_would 6 = .ok (.iload_n 1, 1) := by decide +kernel
theorem dX7_would_7 : decode cX7_would 7 = .ok (.iload_n 2, 1) := by decide +kernel
theorem dX7_would_8 : decode cX7_would 8 = .ok (.iload_n 3, 1) := by decide +kernel
theorem dX7_would_9 : decode cX7_would 9 = .ok (.invokevirtual 232, 3) := by decide +kernel
theorem dX7_would_12 : decode cX7_would 12 = .ok (.iconst (-1), 1) := by decide +kernel
theorem dX7_would_13 : decode cX7_would 13 = .ok (.if_icmp .ne 24, 3) := by decide +kernel
theorem dX7_would_37 : decode cX7_would 37 = .ok (.iconst (-1), 1) := by decide +kernel
theorem dX7_would_38 : decode cX7_would 38 = .ok (.ireturn, 1) := by decide +kernel
set_option maxRecDepth 20000 in
theorem ggX7_bestZone_X7_isLane : GoodIn wsX7_bestZone wsX7_isLane := goodIn_r _ [11, 12, 13, 14, 10, 15, 16, 17, 18, 19, 20, 21, 22, 23, 24, 154, 155, 156, 157, 158, 159, 160, 161, 162, 163, 164, 165, 166, 167, 168, 169, 170, 171, 172, 173, 174] (by decide +kernel) (by decide +kernel)
set_option maxRecDepth 20000 in
theorem gX7_bestZone_X7_isLane : GoodIn wsX7_bestZone (wsV RX7 229 RX7 yX7_isLane wsX7_isLane) := goodIn_app (goodIn_of _ (by decide +kernel)) ggX7_bestZone_X7_isLane
theorem dX7_bestZone_0 : decode cX7_bestZone 0 = .ok (.aload_n 0, 1) := by decide +kernel
theorem dX7_bestZone_1 : decode cX7_bestZone 1 = .ok (.iconst 0, 1) := by decide +kernel
theorem dX7_bestZone_2 : decode cX7_bestZone 2 = .ok (.putfield 49, 3) := by decide +kernel
theorem dX7_bestZone_5 : decode cX7_bestZone 5 = .ok (.aload_n 0, 1) := by decide +kernel
theorem dX7_bestZone_6 : decode cX7_bestZone 6 = .ok (.iload_n 1, 1) := by decide +kernel
theorem dX7_bestZone_7 : decode cX7_bestZone 7 = .ok (.iload_n 2, 1) := by decide +kernel
theorem dX7_bestZone_8 : decode cX7_bestZone 8 = .ok (.invokevirtual 229, 3) := by decide +kernel
theorem dX7_bestZone_11 : decode cX7_bestZone 11 = .ok (.ifCond .eq 13, 3) := by decide +kernel
theorem dX7_bestZone_24 : decode cX7_bestZone 24 = .ok (.iconst (-1), 1) := by decide +kernel
theorem dX7_bestZone_25 : decode cX7_bestZone 25 = .ok (.ireturn, 1) := by decide +kernel
set_option maxRecDepth 20000 in
theorem ggX7_waits__X7_isLane : GoodIn wsX7_waits_ wsX7_isLane := goodIn_r _ [6, 7, 8, 9, 5, 10, 11, 12, 13, 14, 15, 16, 17, 18, 19, 141, 142, 143, 144, 145, 146, 147, 148, 149, 150, 151, 152, 153, 154, 155, 156, 157, 158, 159, 160, 161] (by decide +kernel) (by decide +kernel)
set_option maxRecDepth 20000 in
theorem gX7_waits__X7_isLane : GoodIn wsX7_waits_ (wsV RX7 229 RX7 yX7_isLane wsX7_isLane) := goodIn_app (goodIn_of _ (by decide +kernel)) ggX7_waits__X7_isLane
theorem dX7_waits__0 : decode cX7_waits_ 0 = .ok (.aload_n 0, 1) := by decide +kernel
theorem dX7_waits__1 : decode cX7_waits_ 1 = .ok (.iconst 0, 1) := by decide +kernel
theorem dX7_waits__2 : decode cX7_waits_ 2 = .ok (.putfield 49, 3) := by decide +kernel
theorem dX7_waits__5 : decode cX7_waits_ 5 = .ok (.aload_n 0, 1) := by decide +kernel
theorem dX7_waits__6 : decode cX7_waits_ 6 = .ok (.iload_n 1, 1) := by decide +kernel
theorem dX7_waits__7 : decode cX7_waits_ 7 = .ok (.iload_n 2, 1) := by decide +kernel
theorem dX7_waits__8 : decode cX7_waits_ 8 = .ok (.invokevirtual 229, 3) := by decide +kernel
theorem dX7_waits__11 : decode cX7_waits_ 11 = .ok (.ifCond .eq 21, 3) := by decide +kernel
theorem dX7_waits__32 : decode cX7_waits_ 32 = .ok (.iconst (-1), 1) := by decide +kernel
theorem dX7_waits__33 : decode cX7_waits_ 33 = .ok (.ireturn, 1) := by decide +kernel
set_option maxRecDepth 20000 in
theorem ggX7_worst_X7_isCircuit : GoodIn wsX7_worst wsX7_isCircuit := goodIn_r _ [11, 12, 13, 14, 10, 15, 133, 134, 135, 136, 137, 138, 139, 140, 141, 142, 143, 144, 145, 146, 147, 148, 149, 150, 151, 152, 153] (by decide +kernel) (by decide +kernel)
set_option maxRecDepth 20000 in
theorem gX7_worst_X7_isCircuit : GoodIn wsX7_worst (wsV RX7 133 RX7 yX7_isCircuit wsX7_isCircuit) := goodIn_app (goodIn_of _ (by decide +kernel)) ggX7_worst_X7_isCircuit
theorem dX7_worst_0 : decode cX7_worst 0 = .ok (.aload_n 0, 1) := by decide +kernel
theorem dX7_worst_1 : decode cX7_worst 1 = .ok (.iconst 0, 1) := by decide +kernel
theorem dX7_worst_2 : decode cX7_worst 2 = .ok (.putfield 49, 3) := by decide +kernel
theorem dX7_worst_5 : decode cX7_worst 5 = .ok (.aload_n 0, 1) := by decide +kernel
theorem dX7_worst_6 : decode cX7_worst 6 = .ok (.iload_n 1, 1) := by decide +kernel
theorem dX7_worst_7 : decode cX7_worst 7 = .ok (.invokevirtual 133, 3) := by decide +kernel
theorem dX7_worst_10 : decode cX7_worst 10 = .ok (.ifCond .eq 11, 3) := by decide +kernel
theorem dX7_worst_21 : decode cX7_worst 21 = .ok (.iconst (-1), 1) := by decide +kernel
theorem dX7_worst_22 : decode cX7_worst 22 = .ok (.ireturn, 1) := by decide +kernel
theorem dX7_aloneSent_0 : decode cX7_aloneSent 0 = .ok (.iconst 0, 1) := by decide +kernel
theorem dX7_aloneSent_1 : decode cX7_aloneSent 1 = .ok (.istore 6, 2) := by decide +kernel
theorem dX7_aloneSent_3 : decode cX7_aloneSent 3 = .ok (.iload 6, 2) := by decide +kernel
theorem dX7_aloneSent_5 : decode cX7_aloneSent 5 = .ok (.bipush 8, 2) := by decide +kernel
theorem dX7_aloneSent_7 : decode cX7_aloneSent 7 = .ok (.if_icmp .ge 25, 3) := by decide +kernel
theorem dX7_aloneSent_10 : decode cX7_aloneSent 10 = .ok (.aload_n 0, 1) := by decide +kernel
theorem dX7_aloneSent_11 : decode cX7_aloneSent 11 = .ok (.getfield 43, 3) := by decide +kernel
theorem dX7_aloneSent_14 : decode cX7_aloneSent 14 = .ok (.iload 6, 2) := by decide +kernel
theorem dX7_aloneSent_16 : decode cX7_aloneSent 16 = .ok (.iconst 0, 1) := by decide +kernel
theorem dX7_aloneSent_17 : decode cX7_aloneSent 17 = .ok (.iastore, 1) := by decide +kernel
theorem dX7_aloneSent_18 : decode cX7_aloneSent 18 = .ok (.aload_n 0, 1) := by decide +kernel
theorem dX7_aloneSent_19 : decode cX7_aloneSent 19 = .ok (.getfield 46, 3) := by decide +kernel
theorem dX7_aloneSent_22 : decode cX7_aloneSent 22 = .ok (.iload 6, 2) := by decide +kernel
theorem dX7_aloneSent_24 : decode cX7_aloneSent 24 = .ok (.iconst (-1), 1) := by decide +kernel
theorem dX7_aloneSent_25 : decode cX7_aloneSent 25 = .ok (.iastore, 1) := by decide +kernel
theorem dX7_aloneSent_26 : decode cX7_aloneSent 26 = .ok (.iinc 6 1, 3) := by decide +kernel
theorem dX7_aloneSent_29 : decode cX7_aloneSent 29 = .ok (.goto (-26), 3) := by decide +kernel
theorem dX7_aloneSent_32 : decode cX7_aloneSent 32 = .ok (.iconst 0, 1) := by decide +kernel
theorem dX7_aloneSent_33 : decode cX7_aloneSent 33 = .ok (.istore 6, 2) := by decide +kernel
theorem dX7_aloneSent_35 : decode cX7_aloneSent 35 = .ok (.iconst 0, 1) := by decide +kernel
theorem dX7_aloneSent_36 : decode cX7_aloneSent 36 = .ok (.istore 7, 2) := by decide +kernel
theorem dX7_aloneSent_38 : decode cX7_aloneSent 38 = .ok (.iconst 0, 1) := by decide +kernel
theorem dX7_aloneSent_39 : decode cX7_aloneSent 39 = .ok (.istore 8, 2) := by decide +kernel
theorem dX7_aloneSent_41 : decode cX7_aloneSent 41 = .ok (.iconst 0, 1) := by decide +kernel
theorem dX7_aloneSent_42 : decode cX7_aloneSent 42 = .ok (.istore 9, 2) := by decide +kernel
theorem dX7_aloneSent_44 : decode cX7_aloneSent 44 = .ok (.iconst 0, 1) := by decide +kernel
theorem dX7_aloneSent_45 : decode cX7_aloneSent 45 = .ok (.istore 10, 2) := by decide +kernel
theorem dX7_aloneSent_47 : decode cX7_aloneSent 47 = .ok (.iload 10, 2) := by decide +kernel
theorem dX7_aloneSent_49 : decode cX7_aloneSent 49 = .ok (.iload 5, 2) := by decide +kernel
theorem dX7_aloneSent_51 : decode cX7_aloneSent 51 = .ok (.if_icmp .ge 137, 3) := by decide +kernel
theorem dX7_aloneSent_54 : decode cX7_aloneSent 54 = .ok (.iload 10, 2) := by decide +kernel
theorem dX7_aloneSent_56 : decode cX7_aloneSent 56 = .ok (.bipush 8, 2) := by decide +kernel
theorem dX7_aloneSent_58 : decode cX7_aloneSent 58 = .ok (.irem, 1) := by decide +kernel
theorem dX7_aloneSent_59 : decode cX7_aloneSent 59 = .ok (.istore 11, 2) := by decide +kernel
theorem dX7_aloneSent_61 : decode cX7_aloneSent 61 = .ok (.iload 9, 2) := by decide +kernel
theorem dX7_aloneSent_63 : decode cX7_aloneSent 63 = .ok (.aload_n 0, 1) := by decide +kernel
theorem dX7_aloneSent_64 : decode cX7_aloneSent 64 = .ok (.getfield 43, 3) := by decide +kernel
theorem dX7_aloneSent_67 : decode cX7_aloneSent 67 = .ok (.iload 11, 2) := by decide +kernel
theorem dX7_aloneSent_69 : decode cX7_aloneSent 69 = .ok (.iaload, 1) := by decide +kernel
theorem dX7_aloneSent_70 : decode cX7_aloneSent 70 = .ok (.iadd, 1) := by decide +kernel
theorem dX7_aloneSent_71 : decode cX7_aloneSent 71 = .ok (.istore 9, 2) := by decide +kernel
theorem dX7_aloneSent_73 : decode cX7_aloneSent 73 = .ok (.aload_n 0, 1) := by decide +kernel
theorem dX7_aloneSent_74 : decode cX7_aloneSent 74 = .ok (.getfield 46, 3) := by decide +kernel
theorem dX7_aloneSent_77 : decode cX7_aloneSent 77 = .ok (.iload 11, 2) := by decide +kernel
theorem dX7_aloneSent_79 : decode cX7_aloneSent 79 = .ok (.iaload, 1) := by decide +kernel
theorem dX7_aloneSent_80 : decode cX7_aloneSent 80 = .ok (.iconst (-1), 1) := by decide +kernel
theorem dX7_aloneSent_81 : decode cX7_aloneSent 81 = .ok (.if_icmp .ne 8, 3) := by decide +kernel
theorem dX7_aloneSent_84 : decode cX7_aloneSent 84 = .ok (.iload 8, 2) := by decide +kernel
theorem dX7_aloneSent_86 : decode cX7_aloneSent 86 = .ok (.goto 10, 3) := by decide +kernel
theorem dX7_aloneSent_89 : decode cX7_aloneSent 89 = .ok (.aload_n 0, 1) := by decide +kernel
theorem dX7_aloneSent_90 : decode cX7_aloneSent 90 = .ok (.getfield 46, 3) := by decide +kernel
theorem dX7_aloneSent_93 : decode cX7_aloneSent 93 = .ok (.iload 11, 2) := by decide +kernel
theorem dX7_aloneSent_95 : decode cX7_aloneSent 95 = .ok (.iaload, 1) := by decide +kernel
theorem dX7_aloneSent_96 : decode cX7_aloneSent 96 = .ok (.istore 8, 2) := by decide +kernel
theorem dX7_aloneSent_98 : decode cX7_aloneSent 98 = .ok (.aload_n 0, 1) := by decide +kernel
theorem dX7_aloneSent_99 : decode cX7_aloneSent 99 = .ok (.getfield 43, 3) := by decide +kernel
theorem dX7_aloneSent_102 : decode cX7_aloneSent 102 = .ok (.iload 11, 2) := by decide +kernel
theorem dX7_aloneSent_104 : decode cX7_aloneSent 104 = .ok (.iconst 0, 1) := by decide +kernel
theorem dX7_aloneSent_105 : decode cX7_aloneSent 105 = .ok (.iastore, 1) := by decide +kernel
theorem dX7_aloneSent_106 : decode cX7_aloneSent 106 = .ok (.aload_n 0, 1) := by decide +kernel
theorem dX7_aloneSent_107 : decode cX7_aloneSent 107 = .ok (.getfield 46, 3) := by decide +kernel
theorem dX7_aloneSent_110 : decode cX7_aloneSent 110 = .ok (.iload 11, 2) := by decide +kernel
theorem dX7_aloneSent_112 : decode cX7_aloneSent 112 = .ok (.iconst (-1), 1) := by decide +kernel
theorem dX7_aloneSent_113 : decode cX7_aloneSent 113 = .ok (.iastore, 1) := by decide +kernel
theorem dX7_aloneSent_114 : decode cX7_aloneSent 114 = .ok (.iload 10, 2) := by decide +kernel
theorem dX7_aloneSent_116 : decode cX7_aloneSent 116 = .ok (.iload_n 1, 1) := by decide +kernel
theorem dX7_aloneSent_117 : decode cX7_aloneSent 117 = .ok (.iadd, 1) := by decide +kernel
theorem dX7_aloneSent_118 : decode cX7_aloneSent 118 = .ok (.bipush 8, 2) := by decide +kernel
theorem dX7_aloneSent_120 : decode cX7_aloneSent 120 = .ok (.irem, 1) := by decide +kernel
theorem dX7_aloneSent_121 : decode cX7_aloneSent 121 = .ok (.istore 12, 2) := by decide +kernel
theorem dX7_aloneSent_123 : decode cX7_aloneSent 123 = .ok (.iload 10, 2) := by decide +kernel
theorem dX7_aloneSent_125 : decode cX7_aloneSent 125 = .ok (.iload 4, 2) := by decide +kernel
theorem dX7_aloneSent_127 : decode cX7_aloneSent 127 = .ok (.irem, 1) := by decide +kernel
theorem dX7_aloneSent_128 : decode cX7_aloneSent 128 = .ok (.ifCond .ne 34, 3) := by decide +kernel
theorem dX7_aloneSent_131 : decode cX7_aloneSent 131 = .ok (.iload 9, 2) := by decide +kernel
theorem dX7_aloneSent_133 : decode cX7_aloneSent 133 = .ok (.ifCond .le 29, 3) := by decide +kernel
theorem dX7_aloneSent_136 : decode cX7_aloneSent 136 = .ok (.iinc 9 (-1), 3) := by decide +kernel
theorem dX7_aloneSent_139 : decode cX7_aloneSent 139 = .ok (.iinc 7 1, 3) := by decide +kernel
theorem dX7_aloneSent_142 : decode cX7_aloneSent 142 = .ok (.aload_n 0, 1) := by decide +kernel
theorem dX7_aloneSent_143 : decode cX7_aloneSent 143 = .ok (.getfield 46, 3) := by decide +kernel
theorem dX7_aloneSent_146 : decode cX7_aloneSent 146 = .ok (.iload 12, 2) := by decide +kernel
theorem dX7_aloneSent_148 : decode cX7_aloneSent 148 = .ok (.iload 7, 2) := by decide +kernel
theorem dX7_aloneSent_150 : decode cX7_aloneSent 150 = .ok (.iload_n 2, 1) := by decide +kernel
theorem dX7_aloneSent_151 : decode cX7_aloneSent 151 = .ok (.irem, 1) := by decide +kernel
theorem dX7_aloneSent_152 : decode cX7_aloneSent 152 = .ok (.ifCond .ne 8, 3) := by decide +kernel
theorem dX7_aloneSent_155 : decode cX7_aloneSent 155 = .ok (.iload 7, 2) := by decide +kernel
theorem dX7_aloneSent_157 : decode cX7_aloneSent 157 = .ok (.goto 4, 3) := by decide +kernel
theorem dX7_aloneSent_160 : decode cX7_aloneSent 160 = .ok (.iconst (-1), 1) := by decide +kernel
theorem dX7_aloneSent_161 : decode cX7_aloneSent 161 = .ok (.iastore, 1) := by decide +kernel
theorem dX7_aloneSent_162 : decode cX7_aloneSent 162 = .ok (.iload 6, 2) := by decide +kernel
theorem dX7_aloneSent_164 : decode cX7_aloneSent 164 = .ok (.iload 8, 2) := by decide +kernel
theorem dX7_aloneSent_166 : decode cX7_aloneSent 166 = .ok (.isub, 1) := by decide +kernel
theorem dX7_aloneSent_167 : decode cX7_aloneSent 167 = .ok (.iload_n 3, 1) := by decide +kernel
theorem dX7_aloneSent_168 : decode cX7_aloneSent 168 = .ok (.if_icmp .ge 14, 3) := by decide +kernel
theorem dX7_aloneSent_171 : decode cX7_aloneSent 171 = .ok (.iinc 6 1, 3) := by decide +kernel
theorem dX7_aloneSent_174 : decode cX7_aloneSent 174 = .ok (.aload_n 0, 1) := by decide +kernel
theorem dX7_aloneSent_175 : decode cX7_aloneSent 175 = .ok (.getfield 43, 3) := by decide +kernel
theorem dX7_aloneSent_178 : decode cX7_aloneSent 178 = .ok (.iload 12, 2) := by decide +kernel
theorem dX7_aloneSent_180 : decode cX7_aloneSent 180 = .ok (.iconst 1, 1) := by decide +kernel
theorem dX7_aloneSent_181 : decode cX7_aloneSent 181 = .ok (.iastore, 1) := by decide +kernel
theorem dX7_aloneSent_182 : decode cX7_aloneSent 182 = .ok (.iinc 10 1, 3) := by decide +kernel
theorem dX7_aloneSent_185 : decode cX7_aloneSent 185 = .ok (.goto (-138), 3) := by decide +kernel
theorem dX7_aloneSent_188 : decode cX7_aloneSent 188 = .ok (.iload 6, 2) := by decide +kernel
theorem dX7_aloneSent_190 : decode cX7_aloneSent 190 = .ok (.ireturn, 1) := by decide +kernel
set_option maxRecDepth 20000 in
theorem ggX7_isAlone_X7_in : GoodIn wsX7_isAlone wsX7_in := goodIn_r _ [4] (by decide +kernel) (by decide +kernel)
set_option maxRecDepth 20000 in
theorem gX7_isAlone_X7_in : GoodIn wsX7_isAlone (va_wsS RX7 60 yX7_in wsX7_in) := goodIn_app (goodIn_of _ (by decide +kernel)) ggX7_isAlone_X7_in
set_option maxRecDepth 20000 in
theorem ggX7_isAlone_X7_isSpan : GoodIn wsX7_isAlone wsX7_isSpan := goodIn_r _ [7, 1, 2, 3, 4] (by decide +kernel) (by decide +kernel)
set_option maxRecDepth 20000 in
theorem gX7_isAlone_X7_isSpan : GoodIn wsX7_isAlone (va_wsS RX7 253 yX7_isSpan wsX7_isSpan) := goodIn_app (goodIn_of _ (by decide +kernel)) ggX7_isAlone_X7_isSpan
theorem dX7_isAlone_0 : decode cX7_isAlone 0 = .ok (.iload_n 0, 1) := by decide +kernel
theorem dX7_isAlone_1 : decode cX7_isAlone 1 = .ok (.iconst 1, 1) := by decide +kernel
theorem dX7_isAlone_2 : decode cX7_isAlone 2 = .ok (.iconst 4, 1) := by decide +kernel
theorem dX7_isAlone_3 : decode cX7_isAlone 3 = .ok (.invokestatic 60, 3) := by decide +kernel
theorem dX7_isAlone_6 : decode cX7_isAlone 6 = .ok (.ifCond .eq 34, 3) := by decide +kernel
theorem dX7_isAlone_9 : decode cX7_isAlone 9 = .ok (.iload_n 1, 1) := by decide +kernel
theorem dX7_isAlone_10 : decode cX7_isAlone 10 = .ok (.iconst 1, 1) := by decide +kernel
theorem dX7_isAlone_11 : decode cX7_isAlone 11 = .ok (.iconst 4, 1) := by decide +kernel
theorem dX7_isAlone_12 : decode cX7_isAlone 12 = .ok (.invokestatic 60, 3) := by decide +kernel
theorem dX7_isAlone_15 : decode cX7_isAlone 15 = .ok (.ifCond .eq 25, 3) := by decide +kernel
theorem dX7_isAlone_18 : decode cX7_isAlone 18 = .ok (.iload_n 2, 1) := by decide +kernel
theorem dX7_isAlone_19 : decode cX7_isAlone 19 = .ok (.iconst 1, 1) := by decide +kernel
theorem dX7_isAlone_20 : decode cX7_isAlone 20 = .ok (.bipush 9, 2) := by decide +kernel
theorem dX7_isAlone_22 : decode cX7_isAlone 22 = .ok (.invokestatic 60, 3) := by decide +kernel
theorem dX7_isAlone_25 : decode cX7_isAlone 25 = .ok (.ifCond .eq 15, 3) := by decide +kernel
theorem dX7_isAlone_28 : decode cX7_isAlone 28 = .ok (.iload_n 3, 1) := by decide +kernel
theorem dX7_isAlone_29 : decode cX7_isAlone 29 = .ok (.iconst 1, 1) := by decide +kernel
theorem dX7_isAlone_30 : decode cX7_isAlone 30 = .ok (.invokestatic 253, 3) := by decide +kernel
theorem dX7_isAlone_33 : decode cX7_isAlone 33 = .ok (.ifCond .eq 7, 3) := by decide +kernel
theorem dX7_isAlone_36 : decode cX7_isAlone 36 = .ok (.iconst 1, 1) := by decide +kernel
theorem dX7_isAlone_37 : decode cX7_isAlone 37 = .ok (.goto 4, 3) := by decide +kernel
theorem dX7_isAlone_40 : decode cX7_isAlone 40 = .ok (.iconst 0, 1) := by decide +kernel
theorem dX7_isAlone_41 : decode cX7_isAlone 41 = .ok (.ireturn, 1) := by decide +kernel
set_option maxRecDepth 20000 in
theorem ggX7_alone_X7_isAlone : GoodIn wsX7_alone wsX7_isAlone := goodIn_r _ [5, 6, 7, 4, 8, 9, 10, 11] (by decide +kernel) (by decide +kernel)
set_option maxRecDepth 20000 in
theorem gX7_alone_X7_isAlone : GoodIn wsX7_alone (va_wsS RX7 302 yX7_isAlone wsX7_isAlone) := goodIn_app (goodIn_of _ (by decide +kernel)) ggX7_alone_X7_isAlone
set_option maxRecDepth 20000 in
theorem ggX7_alone_X7_in : GoodIn wsX7_alone wsX7_in := goodIn_r _ [8] (by decide +kernel) (by decide +kernel)
set_option maxRecDepth 20000 in
theorem gX7_alone_X7_in : GoodIn wsX7_alone (va_wsS RX7 60 yX7_in wsX7_in) := goodIn_app (goodIn_of _ (by decide +kernel)) ggX7_alone_X7_in
set_option maxRecDepth 20000 in
theorem ggX7_alone_X7_aloneSent : GoodIn wsX7_alone wsX7_aloneSent := goodIn_r _ [15, 16, 17, 18, 19, 20, 21, 22, 23, 24, 25, 26, 27, 28, 29, 30, 31, 32, 33, 34, 35, 36, 37, 38] (by decide +kernel) (by decide +kernel)
set_option maxRecDepth 20000 in
theorem gX7_alone_X7_aloneSent : GoodIn wsX7_alone (wsV RX7 306 RX7 yX7_aloneSent wsX7_aloneSent) := goodIn_app (goodIn_of _ (by decide +kernel)) ggX7_alone_X7_aloneSent
theorem dX7_alone_0 : decode cX7_alone 0 = .ok (.aload_n 0, 1) := by decide +kernel
theorem dX7_alone_1 : decode cX7_alone 1 = .ok (.iconst 0, 1) := by decide +kernel
theorem dX7_alone_2 : decode cX7_alone 2 = .ok (.putfield 49, 3) := by decide +kernel
theorem dX7_alone_5 : decode cX7_alone 5 = .ok (.iload_n 1, 1) := by decide +kernel
theorem dX7_alone_6 : decode cX7_alone 6 = .ok (.iload_n 2, 1) := by decide +kernel
theorem dX7_alone_7 : decode cX7_alone 7 = .ok (.iload 4, 2) := by decide +kernel
theorem dX7_alone_9 : decode cX7_alone 9 = .ok (.iload 5, 2) := by decide +kernel
theorem dX7_alone_11 : decode cX7_alone 11 = .ok (.invokestatic 302, 3) := by decide +kernel
theorem dX7_alone_14 : decode cX7_alone 14 = .ok (.ifCond .eq 27, 3) := by decide +kernel
theorem dX7_alone_17 : decode cX7_alone 17 = .ok (.iload_n 3, 1) := by decide +kernel
theorem dX7_alone_18 : decode cX7_alone 18 = .ok (.iconst 1, 1) := by decide +kernel
theorem dX7_alone_19 : decode cX7_alone 19 = .ok (.bipush 30, 2) := by decide +kernel
theorem dX7_alone_21 : decode cX7_alone 21 = .ok (.invokestatic 60, 3) := by decide +kernel
theorem dX7_alone_24 : decode cX7_alone 24 = .ok (.ifCond .eq 17, 3) := by decide +kernel
theorem dX7_alone_27 : decode cX7_alone 27 = .ok (.aload_n 0, 1) := by decide +kernel
theorem dX7_alone_28 : decode cX7_alone 28 = .ok (.iload_n 1, 1) := by decide +kernel
theorem dX7_alone_29 : decode cX7_alone 29 = .ok (.iload_n 2, 1) := by decide +kernel
theorem dX7_alone_30 : decode cX7_alone 30 = .ok (.iload_n 3, 1) := by decide +kernel
theorem dX7_alone_31 : decode cX7_alone 31 = .ok (.iload 4, 2) := by decide +kernel
theorem dX7_alone_33 : decode cX7_alone 33 = .ok (.iload 5, 2) := by decide +kernel
theorem dX7_alone_35 : decode cX7_alone 35 = .ok (.invokevirtual 306, 3) := by decide +kernel
theorem dX7_alone_38 : decode cX7_alone 38 = .ok (.goto 4, 3) := by decide +kernel
theorem dX7_alone_41 : decode cX7_alone 41 = .ok (.iconst (-1), 1) := by decide +kernel
theorem dX7_alone_42 : decode cX7_alone 42 = .ok (.ireturn, 1) := by decide +kernel
set_option maxRecDepth 20000 in
theorem ggX7_full_X7_isAlone : GoodIn wsX7_full wsX7_isAlone := goodIn_r _ [5, 6, 7, 4, 8, 9, 10, 11] (by decide +kernel) (by decide +kernel)
set_option maxRecDepth 20000 in
theorem gX7_full_X7_isAlone : GoodIn wsX7_full (va_wsS RX7 302 yX7_isAlone wsX7_isAlone) := goodIn_app (goodIn_of _ (by decide +kernel)) ggX7_full_X7_isAlone
set_option maxRecDepth 20000 in
theorem ggX7_full_X7_aloneSent : GoodIn wsX7_full wsX7_aloneSent := goodIn_r _ [15, 16, 17, 18, 19, 20, 21, 22, 23, 24, 25, 26, 27, 28, 29, 30, 31, 32, 33, 34, 35, 36, 37, 38] (by decide +kernel) (by decide +kernel)
set_option maxRecDepth 20000 in
theorem gX7_full_X7_aloneSent : GoodIn wsX7_full (wsV RX7 306 RX7 yX7_aloneSent wsX7_aloneSent) := goodIn_app (goodIn_of _ (by decide +kernel)) ggX7_full_X7_aloneSent
theorem dX7_full_0 : decode cX7_full 0 = .ok (.aload_n 0, 1) := by decide +kernel
theorem dX7_full_1 : decode cX7_full 1 = .ok (.iconst 0, 1) := by decide +kernel
theorem dX7_full_2 : decode cX7_full 2 = .ok (.putfield 49, 3) := by decide +kernel
theorem dX7_full_5 : decode cX7_full 5 = .ok (.iload_n 1, 1) := by decide +kernel
theorem dX7_full_6 : decode cX7_full 6 = .ok (.iload_n 2, 1) := by decide +kernel
theorem dX7_full_7 : decode cX7_full 7 = .ok (.iload_n 3, 1) := by decide +kernel
theorem dX7_full_8 : decode cX7_full 8 = .ok (.iload 4, 2) := by decide +kernel
theorem dX7_full_10 : decode cX7_full 10 = .ok (.invokestatic 302, 3) := by decide +kernel
theorem dX7_full_13 : decode cX7_full 13 = .ok (.ifCond .ne 5, 3) := by decide +kernel
theorem dX7_full_16 : decode cX7_full 16 = .ok (.iconst (-1), 1) := by decide +kernel
theorem dX7_full_17 : decode cX7_full 17 = .ok (.ireturn, 1) := by decide +kernel
theorem dX7_full_18 : decode cX7_full 18 = .ok (.aload_n 0, 1) := by decide +kernel
theorem dX7_full_19 : decode cX7_full 19 = .ok (.iload_n 1, 1) := by decide +kernel
theorem dX7_full_20 : decode cX7_full 20 = .ok (.iload_n 2, 1) := by decide +kernel
theorem dX7_full_21 : decode cX7_full 21 = .ok (.bipush 30, 2) := by decide +kernel
theorem dX7_full_23 : decode cX7_full 23 = .ok (.iload_n 3, 1) := by decide +kernel
theorem dX7_full_24 : decode cX7_full 24 = .ok (.iload 4, 2) := by decide +kernel
theorem dX7_full_26 : decode cX7_full 26 = .ok (.invokevirtual 306, 3) := by decide +kernel
theorem dX7_full_29 : decode cX7_full 29 = .ok (.istore 5, 2) := by decide +kernel
theorem dX7_full_31 : decode cX7_full 31 = .ok (.iconst 1, 1) := by decide +kernel
theorem dX7_full_32 : decode cX7_full 32 = .ok (.istore 6, 2) := by decide +kernel
theorem dX7_full_34 : decode cX7_full 34 = .ok (.aload_n 0, 1) := by decide +kernel
theorem dX7_full_35 : decode cX7_full 35 = .ok (.iload_n 1, 1) := by decide +kernel
theorem dX7_full_36 : decode cX7_full 36 = .ok (.iload_n 2, 1) := by decide +kernel
theorem dX7_full_37 : decode cX7_full 37 = .ok (.iload 6, 2) := by decide +kernel
theorem dX7_full_39 : decode cX7_full 39 = .ok (.iload_n 3, 1) := by decide +kernel
theorem dX7_full_40 : decode cX7_full 40 = .ok (.iload 4, 2) := by decide +kernel
theorem dX7_full_42 : decode cX7_full 42 = .ok (.invokevirtual 306, 3) := by decide +kernel
theorem dX7_full_45 : decode cX7_full 45 = .ok (.iload 5, 2) := by decide +kernel
theorem dX7_full_47 : decode cX7_full 47 = .ok (.if_icmp .ge 9, 3) := by decide +kernel
theorem dX7_full_50 : decode cX7_full 50 = .ok (.iinc 6 1, 3) := by decide +kernel
theorem dX7_full_53 : decode cX7_full 53 = .ok (.goto (-19), 3) := by decide +kernel
theorem dX7_full_56 : decode cX7_full 56 = .ok (.iload 6, 2) := by decide +kernel
theorem dX7_full_58 : decode cX7_full 58 = .ok (.ireturn, 1) := by decide +kernel
set_option maxRecDepth 20000 in
theorem ggX7_law_X7_isAlone : GoodIn wsX7_law wsX7_isAlone := goodIn_r _ [5, 6, 7, 4, 8, 9, 10, 11] (by decide +kernel) (by decide +kernel)
set_option maxRecDepth 20000 in
theorem gX7_law_X7_isAlone : GoodIn wsX7_law (va_wsS RX7 302 yX7_isAlone wsX7_isAlone) := goodIn_app (goodIn_of _ (by decide +kernel)) ggX7_law_X7_isAlone
set_option maxRecDepth 20000 in
theorem ggX7_law_X7_in : GoodIn wsX7_law wsX7_in := goodIn_r _ [8] (by decide +kernel) (by decide +kernel)
set_option maxRecDepth 20000 in
theorem gX7_law_X7_in : GoodIn wsX7_law (va_wsS RX7 60 yX7_in wsX7_in) := goodIn_app (goodIn_of _ (by decide +kernel)) ggX7_law_X7_in
theorem dX7_law_0 : decode cX7_law 0 = .ok (.aload_n 0, 1) := by decide +kernel
theorem dX7_law_1 : decode cX7_law 1 = .ok (.iconst 0, 1) := by decide +kernel
theorem dX7_law_2 : decode cX7_law 2 = .ok (.putfield 49, 3) := by decide +kernel
theorem dX7_law_5 : decode cX7_law 5 = .ok (.iload_n 1, 1) := by decide +kernel
theorem dX7_law_6 : decode cX7_law 6 = .ok (.iload_n 2, 1) := by decide +kernel
theorem dX7_law_7 : decode cX7_law 7 = .ok (.iconst 1, 1) := by decide +kernel
theorem dX7_law_8 : decode cX7_law 8 = .ok (.iconst 1, 1) := by decide +kernel
theorem dX7_law_9 : decode cX7_law 9 = .ok (.invokestatic 302, 3) := by decide +kernel
theorem dX7_law_12 : decode cX7_law 12 = .ok (.ifCond .eq 29, 3) := by decide +kernel
theorem dX7_law_15 : decode cX7_law 15 = .ok (.iload_n 3, 1) := by decide +kernel
theorem dX7_law_16 : decode cX7_law 16 = .ok (.iconst 1, 1) := by decide +kernel
theorem dX7_law_17 : decode cX7_law 17 = .ok (.bipush 9, 2) := by decide +kernel
theorem dX7_law_19 : decode cX7_law 19 = .ok (.invokestatic 60, 3) := by decide +kernel
theorem dX7_law_22 : decode cX7_law 22 = .ok (.ifCond .eq 19, 3) := by decide +kernel
theorem dX7_law_25 : decode cX7_law 25 = .ok (.iconst 2, 1) := by decide +kernel
theorem dX7_law_26 : decode cX7_law 26 = .ok (.iload_n 1, 1) := by decide +kernel
theorem dX7_law_27 : decode cX7_law 27 = .ok (.imul, 1) := by decide +kernel
theorem dX7_law_28 : decode cX7_law 28 = .ok (.iload_n 3, 1) := by decide +kernel
theorem dX7_law_29 : decode cX7_law 29 = .ok (.iadd, 1) := by decide +kernel
theorem dX7_law_30 : decode cX7_law 30 = .ok (.iconst 1, 1) := by decide +kernel
theorem dX7_law_31 : decode cX7_law 31 = .ok (.isub, 1) := by decide +kernel
theorem dX7_law_32 : decode cX7_law 32 = .ok (.iload_n 3, 1) := by decide +kernel
theorem dX7_law_33 : decode cX7_law 33 = .ok (.idiv, 1) := by decide +kernel
theorem dX7_law_34 : decode cX7_law 34 = .ok (.iload_n 2, 1) := by decide +kernel
theorem dX7_law_35 : decode cX7_law 35 = .ok (.iadd, 1) := by decide +kernel
theorem dX7_law_36 : decode cX7_law 36 = .ok (.iconst 1, 1) := by decide +kernel
theorem dX7_law_37 : decode cX7_law 37 = .ok (.isub, 1) := by decide +kernel
theorem dX7_law_38 : decode cX7_law 38 = .ok (.goto 4, 3) := by decide +kernel
theorem dX7_law_41 : decode cX7_law 41 = .ok (.iconst (-1), 1) := by decide +kernel
theorem dX7_law_42 : decode cX7_law 42 = .ok (.ireturn, 1) := by decide +kernel
set_option maxRecDepth 20000 in
theorem ggX7_aim_X7_isLane : GoodIn wsX7_aim wsX7_isLane := goodIn_r _ [6, 7, 8, 9, 5, 10, 11, 12, 13, 14, 15, 16, 17, 18, 19, 34, 35, 36, 37, 38, 39, 40, 41, 42, 43, 44, 45, 46, 47, 48, 49, 50, 51, 52, 53, 54] (by decide +kernel) (by decide +kernel)
set_option maxRecDepth 20000 in
theorem gX7_aim_X7_isLane : GoodIn wsX7_aim (wsV RX7 229 RX7 yX7_isLane wsX7_isLane) := goodIn_app (goodIn_of _ (by decide +kernel)) ggX7_aim_X7_isLane
theorem dX7_aim_0 : decode cX7_aim 0 = .ok (.aload_n 0, 1) := by decide +kernel
theorem dX7_aim_1 : decode cX7_aim 1 = .ok (.iconst 0, 1) := by decide +kernel
theorem dX7_aim_2 : decode cX7_aim 2 = .ok (.putfield 49, 3) := by decide +kernel
theorem dX7_aim_5 : decode cX7_aim 5 = .ok (.aload_n 0, 1) := by decide +kernel
theorem dX7_aim_6 : decode cX7_aim 6 = .ok (.iload_n 1, 1) := by decide +kernel
theorem dX7_aim_7 : decode cX7_aim 7 = .ok (.iload_n 2, 1) := by decide +kernel
theorem dX7_aim_8 : decode cX7_aim 8 = .ok (.invokevirtual 229, 3) := by decide +kernel
theorem dX7_aim_11 : decode cX7_aim 11 = .ok (.ifCond .eq 12, 3) := by decide +kernel
theorem dX7_aim_23 : decode cX7_aim 23 = .ok (.iconst (-1), 1) := by decide +kernel
theorem dX7_aim_24 : decode cX7_aim 24 = .ok (.ireturn, 1) := by decide +kernel
set_option maxRecDepth 20000 in
theorem ggX7_room_X7_isLane : GoodIn wsX7_room wsX7_isLane := goodIn_r _ [6, 7, 8, 9, 5, 10, 11, 12, 13, 14, 15, 16, 17, 18, 19, 51, 52, 53, 54, 55, 56, 57, 58, 59, 60, 61, 62, 63, 64, 65, 66, 67, 68, 69, 70, 71] (by decide +kernel) (by decide +kernel)
set_option maxRecDepth 20000 in
theorem gX7_room_X7_isLane : GoodIn wsX7_room (wsV RX7 229 RX7 yX7_isLane wsX7_isLane) := goodIn_app (goodIn_of _ (by decide +kernel)) ggX7_room_X7_isLane
theorem dX7_room_0 : decode cX7_room 0 = .ok (.aload_n 0, 1) := by decide +kernel
theorem dX7_room_1 : decode cX7_room 1 = .ok (.iconst 0, 1) := by decide +kernel
theorem dX7_room_2 : decode cX7_room 2 = .ok (.putfield 49, 3) := by decide +kernel
theorem dX7_room_5 : decode cX7_room 5 = .ok (.aload_n 0, 1) := by decide +kernel
theorem dX7_room_6 : decode cX7_room 6 = .ok (.iload_n 1, 1) := by decide +kernel
theorem dX7_room_7 : decode cX7_room 7 = .ok (.iload_n 2, 1) := by decide +kernel
theorem dX7_room_8 : decode cX7_room 8 = .ok (.invokevirtual 229, 3) := by decide +kernel
theorem dX7_room_11 : decode cX7_room 11 = .ok (.ifCond .eq 12, 3) := by decide +kernel
theorem dX7_room_23 : decode cX7_room 23 = .ok (.iconst (-1), 1) := by decide +kernel
theorem dX7_room_24 : decode cX7_room 24 = .ok (.ireturn, 1) := by decide +kernel
set_option maxRecDepth 20000 in
theorem ggX7_trip_X7_isCircuit : GoodIn wsX7_trip wsX7_isCircuit := goodIn_r _ [7, 8, 9, 10, 6, 11, 15, 16, 17, 18, 19, 20, 21, 22, 23, 24, 25, 26, 27, 28, 29, 30, 31, 32, 33, 34, 35] (by decide +kernel) (by decide +kernel)
set_option maxRecDepth 20000 in
theorem gX7_trip_X7_isCircuit : GoodIn wsX7_trip (wsV RX7 133 RX7 yX7_isCircuit wsX7_isCircuit) := goodIn_app (goodIn_of _ (by decide +kernel)) ggX7_trip_X7_isCircuit
theorem dX7_trip_0 : decode cX7_trip 0 = .ok (.aload_n 0, 1) := by decide +kernel
theorem dX7_trip_1 : decode cX7_trip 1 = .ok (.iconst 0, 1) := by decide +kernel
theorem dX7_trip_2 : decode cX7_trip 2 = .ok (.putfield 49, 3) := by decide +kernel
theorem dX7_trip_5 : decode cX7_trip 5 = .ok (.aload_n 0, 1) := by decide +kernel
theorem dX7_trip_6 : decode cX7_trip 6 = .ok (.iload_n 1, 1) := by decide +kernel
theorem dX7_trip_7 : decode cX7_trip 7 = .ok (.invokevirtual 133, 3) := by decide +kernel
theorem dX7_trip_10 : decode cX7_trip 10 = .ok (.ifCond .eq 26, 3) := by decide +kernel
theorem dX7_trip_36 : decode cX7_trip 36 = .ok (.iconst (-1), 1) := by decide +kernel
theorem dX7_trip_37 : decode cX7_trip 37 = .ok (.ireturn, 1) := by decide +kernel
set_option maxRecDepth 20000 in
theorem ggX7_oldest_X7_isCircuit : GoodIn wsX7_oldest wsX7_isCircuit := goodIn_r _ [7, 8, 9, 10, 6, 11, 19, 20, 21, 22, 23, 24, 25, 26, 27, 28, 29, 30, 31, 32, 33, 34, 35, 36, 37, 38, 39] (by decide +kernel) (by decide +kernel)
set_option maxRecDepth 20000 in
theorem gX7_oldest_X7_isCircuit : GoodIn wsX7_oldest (wsV RX7 133 RX7 yX7_isCircuit wsX7_isCircuit) := goodIn_app (goodIn_of _ (by decide +kernel)) ggX7_oldest_X7_isCircuit
theorem dX7_oldest_0 : decode cX7_oldest 0 = .ok (.aload_n 0, 1) := by decide +kernel
theorem dX7_oldest_1 : decode cX7_oldest 1 = .ok (.iconst 0, 1) := by decide +kernel
theorem dX7_oldest_2 : decode cX7_oldest 2 = .ok (.putfield 49, 3) := by decide +kernel
theorem dX7_oldest_5 : decode cX7_oldest 5 = .ok (.aload_n 0, 1) := by decide +kernel
theorem dX7_oldest_6 : decode cX7_oldest 6 = .ok (.iload_n 1, 1) := by decide +kernel
theorem dX7_oldest_7 : decode cX7_oldest 7 = .ok (.invokevirtual 133, 3) := by decide +kernel
theorem dX7_oldest_10 : decode cX7_oldest 10 = .ok (.ifCond .eq 11, 3) := by decide +kernel
theorem dX7_oldest_21 : decode cX7_oldest 21 = .ok (.iconst (-1), 1) := by decide +kernel
theorem dX7_oldest_22 : decode cX7_oldest 22 = .ok (.ireturn, 1) := by decide +kernel
set_option maxRecDepth 20000 in
theorem ggX7_count_X7_isNet : GoodIn wsX7_count wsX7_isNet := goodIn_r _ [9, 10, 34, 35, 36, 37, 38, 39, 40, 41, 42, 43, 44, 45, 46, 47, 48, 49, 50, 51, 52, 53, 54] (by decide +kernel) (by decide +kernel)
set_option maxRecDepth 20000 in
theorem gX7_count_X7_isNet : GoodIn wsX7_count (wsV RX7 136 RX7 yX7_isNet wsX7_isNet) := goodIn_app (goodIn_of _ (by decide +kernel)) ggX7_count_X7_isNet
theorem dX7_count_0 : decode cX7_count 0 = .ok (.aload_n 0, 1) := by decide +kernel
theorem dX7_count_1 : decode cX7_count 1 = .ok (.iconst 0, 1) := by decide +kernel
theorem dX7_count_2 : decode cX7_count 2 = .ok (.putfield 49, 3) := by decide +kernel
theorem dX7_count_5 : decode cX7_count 5 = .ok (.iload_n 1, 1) := by decide +kernel
theorem dX7_count_6 : decode cX7_count 6 = .ok (.ifCond .ne 8, 3) := by decide +kernel
theorem dX7_count_9 : decode cX7_count 9 = .ok (.aload_n 0, 1) := by decide +kernel
theorem dX7_count_10 : decode cX7_count 10 = .ok (.getfield 57, 3) := by decide +kernel
theorem dX7_count_13 : decode cX7_count 13 = .ok (.ireturn, 1) := by decide +kernel
theorem dX7_count_14 : decode cX7_count 14 = .ok (.aload_n 0, 1) := by decide +kernel
theorem dX7_count_15 : decode cX7_count 15 = .ok (.invokevirtual 136, 3) := by decide +kernel
theorem dX7_count_18 : decode cX7_count 18 = .ok (.ifCond .ne 6, 3) := by decide +kernel
theorem dX7_count_21 : decode cX7_count 21 = .ok (.ldc 236, 2) := by decide +kernel
theorem dX7_count_23 : decode cX7_count 23 = .ok (.ireturn, 1) := by decide +kernel
abbrev vwCl : List vw_C := [(RX0, TX0, 8), (RX1, TX1, 7), (RX2, TX2, 10), (RX3, TX3, 11), (RX4, TX4, 7), (RX5, TX5, 6), (RX6, TX6, 9), (RX7, TX7, 21)]
end
section
/-! rows of my own over the kit: what a contract says before and behind, calls with the frame rule in one row, arrays whose class is known -/
section KY
/-- the array classes: 0 int, 1 Link, 2 Lane, 3 Flow, 4 Trips, 5 long -/
abbrev kY (g : Nat → ClassId) : List (ClassId × FieldType) := [(g 0, .int), (g 1, .object "HopCredits$Link"), (g 2, .object "HopCredits$Lane"), (g 3, .object "HopCredits$Flow"), (g 4, .object "HopCredits$Trips"), (g 5, .long)]
/-- what the tables say beside the words: the links within the nest, the classes of the arrays of references -/
def kn (g : Nat → ClassId) (U : State) : Prop := va_Nw (.methodLinkNest RX6 18 yX4_init RX6) U ∧ va_Nw (.methodLinkNest RX6 42 yX5_init RX6) U ∧ va_Nw (.methodLinkNest RX1 43 yX6_reaches RX6) U ∧ va_Nw (.methodLinkNest RX2 27 yX1_init RX6) U ∧ va_Nw (.methodLinkNest RX3 28 yX0_init RX6) U ∧ va_Nw (.methodLinkNest RX4 90 yX6_outside RX6) U ∧ va_AO "HopCredits$Link" U ∧ va_AO "HopCredits$Lane" U ∧ va_AO "HopCredits$Flow" U ∧ va_AO "HopCredits$Trips" U ∧ vk_R RX6 99 "no such HOP" (g 13) U ∧ vk_R RX6 138 "no such CIRCUIT" (g 14) U ∧ va_Nw (.castable "java/util/NoSuchElementException" "java/util/NoSuchElementException") U
theorem kn.warm {g : Nat → ClassId} {s U : State} (hW : s.WarmedH U.vm) (h : kn g s) : kn g U := by
  obtain ⟨h1, h2, h3, h4, h5, h6, h7, h8, h9, h10, h11, h12, h13⟩ := h
  exact ⟨va_Nw.warmM hW h1, va_Nw.warmM hW h2, va_Nw.warmM hW h3, va_Nw.warmM hW h4, va_Nw.warmM hW h5, va_Nw.warmM hW h6, va_AO.moved hW.alike h7, va_AO.moved hW.alike h8, va_AO.moved hW.alike h9, va_AO.moved hW.alike h10, vk_R.warm hW h11, vk_R.warm hW h12, va_Nw.warmC hW h13⟩
theorem kn.same {g : Nat → ClassId} {u U : State} (hv : u.vm = U.vm) (h : kn g u) : kn g U := by
  obtain ⟨h1, h2, h3, h4, h5, h6, h7, h8, h9, h10, h11, h12, h13⟩ := h
  have ha : u.vm.Alike U.vm := by rw [hv]; exact Vm.Alike.refl _
  exact ⟨va_Nw.same rfl hv h1, va_Nw.same rfl hv h2, va_Nw.same rfl hv h3, va_Nw.same rfl hv h4, va_Nw.same rfl hv h5, va_Nw.same rfl hv h6, va_AO.moved ha h7, va_AO.moved ha h8, va_AO.moved ha h9, va_AO.moved ha h10, vk_R.same hv.symm h11, vk_R.same hv.symm h12, va_Nw.same rfl hv h13⟩
/-- the static tables of Reading: USUAL at g 10, LOWS at g 11, HIGHS at g 12 -/
def tU (j : Nat) : Value := .int (([1, 0, 0, 1, 12, 1, 1, 0, 1] : List Int32).getD j 0)
def tLo (j : Nat) : Value := .int (([1, 0, 0, 1, 1, 1, 0, 0, 0] : List Int32).getD j 0)
def tHi (j : Nat) : Value := .int (([4, 20, 9, 4, 30, 4, 9, 20, 9] : List Int32).getD j 0)
def ks (g : Nat → ClassId) (A : Nat → Prop) (U : State) (H : Heap) : Prop := va_Z "HopCredits$Reading" "USUAL" "[I" (.ref (g 10)) A U H ∧ va_T .int (g 10) 9 tU A U H ∧ va_Z "HopCredits$Reading" "LOWS" "[I" (.ref (g 11)) A U H ∧ va_T .int (g 11) 9 tLo A U H ∧ va_Z "HopCredits$Reading" "HIGHS" "[I" (.ref (g 12)) A U H ∧ va_T .int (g 12) 9 tHi A U H ∧ vx_Zq Bundle.tN "UNASSIGNED_STACK" Bundle.steD A U H ∧ vx_Zq Bundle.tN "SUPPRESSED_SENTINEL" Bundle.listD A U H
theorem ks.moved {g : Nat → ClassId} {A : Nat → Prop} {u U : State} {H : Heap} (hvm : u.vm.Alike U.vm) (h : ks g A u H) : ks g A U H := by
  obtain ⟨h1, h2, h3, h4, h5, h6, h7, h8⟩ := h
  exact ⟨va_Z.moved hvm h1, va_T.moved hvm h2, va_Z.moved hvm h3, va_T.moved hvm h4, va_Z.moved hvm h5, va_T.moved hvm h6, vx_Zq.moved hvm h7, vx_Zq.moved hvm h8⟩
theorem ks.kept {g : Nat → ClassId} {A : Nat → Prop} {U : State} {H H1 : Heap} (h : ks g A U H) (hq : ∀ a : Nat, a < H.size → ¬ A a → H1[a]? = H[a]?) : ks g A U H1 := by
  obtain ⟨h1, h2, h3, h4, h5, h6, h7, h8⟩ := h
  exact ⟨va_Z.kept h1 hq, va_T.kept h2 hq, va_Z.kept h3 hq, va_T.kept h4 hq, va_Z.kept h5 hq, va_T.kept h6 hq, vx_Zq.kept h7 hq, vx_Zq.kept h8 hq⟩
theorem ks.narrow {g : Nat → ClassId} {A B : Nat → Prop} {U : State} {H : Heap} (h : ks g A U H) (hq : ∀ q, B q → A q) : ks g B U H := by
  obtain ⟨h1, h2, h3, h4, h5, h6, h7, h8⟩ := h
  exact ⟨va_Z.narrow h1 hq, va_T.narrow h2 hq, va_Z.narrow h3 hq, va_T.narrow h4 hq, va_Z.narrow h5 hq, va_T.narrow h6 hq, vx_Zq.narrow h7 hq, vx_Zq.narrow h8 hq⟩
def kx (D : va_G) (g : Nat → ClassId) (U : State) : Prop := va_K D vwCl (kY g) U ∧ kn g U
def pre (D : va_G) (g : Nat → ClassId) (sz : Nat) (ws : va_W) (U : State) : Prop := U.heap.size = sz ∧ va_P D vwCl ws U.heap ∧ kx D g U ∧ va_D (fun _ => True) ws ∧ ks g (va_A ws sz) U U.heap
def wd (D : va_G) (A : Nat → Prop) (ws : va_W) (t : State) : Prop := va_P D vwCl ws t.heap ∧ va_D A ws
theorem ky_blind {av : List Value} {D : va_G} {g : Nat → ClassId} {sz : Nat} {ws : va_W} : FrameBlind (va_Pc av (pre D g sz ws)) := by
  intro a U g1 mk q
  obtain ⟨q0, q1, qP, ⟨qK, qN⟩, qD, qZ⟩ := q
  exact ⟨q0, q1, qP, ⟨va_K.moved (u := U) (U := U.calling g1 mk a) (Vm.Alike.refl U.vm) qK, kn.same (U := U.calling g1 mk a) rfl qN⟩, qD, ks.moved (u := U) (U := U.calling g1 mk a) (Vm.Alike.refl U.vm) qZ⟩
theorem ky_mk {av : List Value} {D : va_G} {g : Nat → ClassId} {ws : va_W} {H : Heap} {s : State} {A : Nat → Prop} (hP : va_P D vwCl ws H) (hK : kx D g s) (hD : va_D A ws) (hZ : ks g (va_A ws H.size) s H) : ∀ U : State, U.heap = H → s.WarmedH U.vm → va_Pc av (pre D g H.size ws) av.toArray U := fun U hU hW => ⟨rfl, by rw [hU], by rw [hU]; exact hP, ⟨va_K.moved hW.alike hK.1, kn.warm hW hK.2⟩, hD.weaken (fun _ _ _ _ => trivial), by rw [hU]; exact ks.moved hW.alike hZ⟩
section Rows
variable {p : Program} {l : Launch} {e : Env} {R : Room} {s : State} {m : MethodId} {args : Array Value} {below : List Frame} {meth : Method} {c : Code} {H : Heap} {locs : List Loc} {cells slots : Nat} {Q : State → Prop}
variable {cc : ByteArray} {pc : Nat} {ls : Array Slot} {rest st0 : List Value} {D : va_G} {A : Nat → Prop} {H0 : Heap} {g : Nat → ClassId} {ws wc wr : va_W}
theorem lv_eqi {x y : Int32} (h : x = y) (k : W p l e R s m args below meth c H locs cells slots Q (F0 m pc ls (.int y :: rest))) : W p l e R s m args below meth c H locs cells slots Q (F0 m pc ls (.int x :: rest)) := h ▸ k
theorem lv_eqv {v v2 : Value} (h : v = v2) (k : W p l e R s m args below meth c H locs cells slots Q (F0 m pc ls (v2 :: rest))) : W p l e R s m args below meth c H locs cells slots Q (F0 m pc ls (v :: rest)) := h ▸ k
theorem ky_newa (hx : p.tables.exec = Jvm.exec) (hb : c.code = cc) (harr : (Cond.arrayClass .int).before args s = true) (hK : va_K D vwCl (kY g) s) (hP : va_P D vwCl ws H) (hD : va_D A ws) (hS : va_S A H0 H locs) (hA : ∀ q, H0.size ≤ q → A q)
    {n : Int32} {N : Nat} (hn : ¬ n < 0) (hN : n.toNatClampNeg = N) (hbytes : N * 4 ≤ 536870912) (hcells : cells + 1 ≤ R.cells) (hslots : slots + N ≤ R.slots) (hdg : decode cc pc = .ok (.newarray .int, 2))
    (kk : ∀ (q : Nat) (H1 : Heap), va_P D vwCl (ws ++ [(q, .inl (g 0, N, .inl (fun _ => 0)))]) H1 → va_D A (ws ++ [(q, .inl (g 0, N, .inl (fun _ => 0)))]) → va_S A H0 H1 locs →
      W p l e R s m args below meth c H1 locs (cells + 1) (slots + N) Q (F0 m (pc + 2) ls (.ref q :: rest))) : W p l e R s m args below meth c H locs cells slots Q (F0 m pc ls (.int n :: rest)) := by
  refine va_newa (atype := .int) (ty := .int) (a0 := (N, .inl (fun _ => 0))) hx hb harr rfl hK hP hD hS hA (fun cA => rfl) hn hN hbytes hcells hslots hdg (fun q cA H1 hK1 hP1 hD1 hS1 => ?_)
  have h0 : s.vm.findClass ("[" ++ FieldType.int.toString) = some (g 0) := (hK.2 0 _ rfl).2
  have h1 : s.vm.findClass ("[" ++ FieldType.int.toString) = some cA := (hK1.2 6 (cA, .int) rfl).2
  have he : cA = g 0 := Option.some.inj (h1.symm.trans h0)
  subst he
  exact kk q H1 hP1 hD1 hS1
theorem ky_newq {C : String} {own : String} {index t0 : Nat} (hx : p.tables.exec = Jvm.exec) (hb : c.code = cc) (hown : s.vm.findClass own = some m.cls) (hcl : (Cond.classLink own index C).before args s = true) (hAO : va_AO C s) (ht : (kY g)[t0]? = some (g t0, .object C)) (hK : va_K D vwCl (kY g) s) (hP : va_P D vwCl ws H) (hD : va_D A ws) (hS : va_S A H0 H locs) (hA : ∀ q, H0.size ≤ q → A q)
    {n : Int32} {N : Nat} (hn : ¬ n < 0) (hN : n.toNatClampNeg = N) (hbytes : N * 4 ≤ 536870912) (hcells : cells + 1 ≤ R.cells) (hslots : slots + N ≤ R.slots) (hdg : decode cc pc = .ok (.anewarray index, 3))
    (kk : ∀ (q : Nat) (H1 : Heap), va_P D vwCl (ws ++ [(q, .inl (g t0, N, .inr (.inr (.inr (.inr (fun _ => none))))))]) H1 → va_D A (ws ++ [(q, .inl (g t0, N, .inr (.inr (.inr (.inr (fun _ => none))))))]) → va_S A H0 H1 locs →
      W p l e R s m args below meth c H1 locs (cells + 1) (slots + N) Q (F0 m (pc + 3) ls (.ref q :: rest))) : W p l e R s m args below meth c H locs cells slots Q (F0 m pc ls (.int n :: rest)) := by
  refine va_newq hx hb hown hcl hAO hK hP hD hS hA hn hN hbytes hcells hslots hdg (fun q cA H1 hK1 hP1 hD1 hS1 => ?_)
  obtain ⟨-, -, -, -, -, h0⟩ := (hK.2 t0 _ ht).2
  obtain ⟨-, -, -, -, -, h1⟩ := (hK1.2 6 (cA, .object C) rfl).2
  have he : cA = g t0 := Option.some.inj (h1.symm.trans h0)
  subst he
  exact kk q H1 hP1 hD1 hS1
/-- behind a call: what came back beside the rest -/
theorem ky_back (hP : va_P D vwCl ws H) (hD : va_D A ws) (isC isR : List Nat) (hC : isC.map (fun i => ws[i]?) = wc.map some) (hR : isR.map (fun i => ws[i]?) = wr.map some) (hn2 : va_nd isR = true) (hdis : (isR.all fun i => !isC.contains i) = true) {H1 : Heap} {w1 : va_W} (hk : ∀ q : Nat, q < H.size → ¬ va_A wc H.size q → H1[q]? = H[q]?) (hF : ∀ q, va_A wc H.size q → A q) (hP1 : va_P D vwCl w1 H1) (hD1 : va_D (va_A wc H.size) w1) : va_P D vwCl (wr ++ w1) H1 ∧ va_D A (wr ++ w1) :=
  va_join hP hD isC isR hC hR hn2 (fun i hi hc => by have h1 := List.all_eq_true.mp hdis i hi; simp at h1; exact h1 hc) hk hF hP1 hD1
theorem ky_sub (hP : va_P D vwCl ws H) {isC : List Nat} (hC : isC.map (fun i => ws[i]?) = wc.map some) : va_P D vwCl wc H := by
  refine hP.sub isC ?_
  rw [show isC.filterMap (fun i => ws[i]?) = (isC.map (fun i => ws[i]?)).filterMap id by rw [List.filterMap_map]; rfl, hC, List.filterMap_map]
  exact List.filterMap_some
variable {nL index n maxL mc ms : Nat} {Ts wsC : List Cond} {own C host : String} {y : MethodName} {bytes : ByteArray} {ret : Option FieldType} {rm : Room} {b : Addr} {As : List Value}
theorem ky_Vi (S : CallFix p m c cc nL s args Ts own) (hKN : kx D g s) (hZ : ks g A s s.heap) (hP : va_P D vwCl ws H) (hD : va_D A ws) (hS : va_S A s.heap H locs) (hA : ∀ q, s.heap.size ≤ q → A q) (isC isR : List Nat) (hC : isC.map (fun i => ws[i]?) = wc.map some) (hR : isR.map (fun i => ws[i]?) = wr.map some) (hn1 : va_nd isC = true) (hn2 : va_nd isR = true) (hdis : (isR.all fun i => !isC.contains i) = true) {post : Int32 → va_W → Prop}
    (hM : Met l y wsC rm (va_Pc (.ref b :: As) (pre D g H.size wc)) (va_Qi post (wd D (va_A wc H.size)) (va_A wc H.size)) mc ms (va_A wc H.size)) (cw : CallW R s args own C index y bytes maxL ret wsC rm mc ms n)
    (q0 ci : Nat) {q : vw_C} {fs : List Value} (he : ws[q0]? = some (b, .inr (ci, fs))) (hc : vwCl[ci]? = some q) (hq : q.1 = C) (hn : As.length = n) (hsize : ls.size = nL) (hst : st0 = As.reverse ++ .ref b :: rest) (hW : (rest.map fun v => v.category).sum ≤ 8) (hdg : decode cc pc = .ok (.invokevirtual index, 3)) (hf : cells + mc ≤ R.cells ∧ slots + ms ≤ R.slots)
    (kk : ∀ (r : Int32) (u : va_W) (H1 : Heap) (locs1 : List Loc), post r u → va_P D vwCl (wr ++ u) H1 → va_D A (wr ++ u) → va_S A s.heap H1 locs1 → W p l e R s m args below meth c H1 locs1 (cells + mc) (slots + ms) Q (F0 m (pc + 3) ls (.int r :: rest))) : W p l e R s m args below meth c H locs cells slots Q (F0 m pc ls st0) := by
  subst hq
  have hF := va_free (wc := wc) hD hS hA isC hC
  have hPc := ky_sub hP hC
  have hDc := hD.sub isC hn1 hC
  refine va_calli (va_runV (As := As) (rest := rest) S hM cw ⟨ky_blind, va_recv hKN.1 hP (ci := ci) (q0 := q0) hc he, ky_mk hPc hKN hDc ((hZ.kept hS.2.1).narrow hF)⟩ rfl hn hsize hst (lv_room hW) hdg hf) hS (fun q _ h => hF q h) hF (fun r u t H1 locs ht hvm hw hB hz1 hk1 hS => ?_)
  obtain ⟨hP1, hD1⟩ := hB
  rw [ht] at hP1
  obtain ⟨a, b⟩ := ky_back hP hD isC isR hC hR hn2 hdis hk1 hF hP1 hD1
  exact kk r u H1 locs hw a b hS
theorem ky_Vv (S : CallFix p m c cc nL s args Ts own) (hKN : kx D g s) (hZ : ks g A s s.heap) (hP : va_P D vwCl ws H) (hD : va_D A ws) (hS : va_S A s.heap H locs) (hA : ∀ q, s.heap.size ≤ q → A q) (isC isR : List Nat) (hC : isC.map (fun i => ws[i]?) = wc.map some) (hR : isR.map (fun i => ws[i]?) = wr.map some) (hn1 : va_nd isC = true) (hn2 : va_nd isR = true) (hdis : (isR.all fun i => !isC.contains i) = true) {post : va_W → Prop}
    (hM : Met l y wsC rm (va_Pc (.ref b :: As) (pre D g H.size wc)) (va_Qv post (wd D (va_A wc H.size)) (va_A wc H.size)) mc ms (va_A wc H.size)) (cw : CallW R s args own C index y bytes maxL ret wsC rm mc ms n)
    (q0 ci : Nat) {q : vw_C} {fs : List Value} (he : ws[q0]? = some (b, .inr (ci, fs))) (hc : vwCl[ci]? = some q) (hq : q.1 = C) (hn : As.length = n) (hsize : ls.size = nL) (hst : st0 = As.reverse ++ .ref b :: rest) (hW : (rest.map fun v => v.category).sum ≤ 8) (hdg : decode cc pc = .ok (.invokevirtual index, 3)) (hf : cells + mc ≤ R.cells ∧ slots + ms ≤ R.slots)
    (kk : ∀ (u : va_W) (H1 : Heap) (locs1 : List Loc), post u → va_P D vwCl (wr ++ u) H1 → va_D A (wr ++ u) → va_S A s.heap H1 locs1 → W p l e R s m args below meth c H1 locs1 (cells + mc) (slots + ms) Q (F0 m (pc + 3) ls rest)) : W p l e R s m args below meth c H locs cells slots Q (F0 m pc ls st0) := by
  subst hq
  have hF := va_free (wc := wc) hD hS hA isC hC
  have hPc := ky_sub hP hC
  have hDc := hD.sub isC hn1 hC
  refine va_callv (va_runV (As := As) (rest := rest) S hM cw ⟨ky_blind, va_recv hKN.1 hP (ci := ci) (q0 := q0) hc he, ky_mk hPc hKN hDc ((hZ.kept hS.2.1).narrow hF)⟩ rfl hn hsize hst (lv_room hW) hdg hf) hS (fun q _ h => hF q h) hF (fun u t H1 locs ht hvm hw hB hz1 hk1 hS => ?_)
  obtain ⟨hP1, hD1⟩ := hB
  rw [ht] at hP1
  obtain ⟨a, b⟩ := ky_back hP hD isC isR hC hR hn2 hdis hk1 hF hP1 hD1
  exact kk u H1 locs hw a b hS
theorem ky_Si (S : CallFix p m c cc nL s args Ts own) (hKN : kx D g s) (hZ : ks g A s s.heap) (hP : va_P D vwCl ws H) (hD : va_D A ws) (hS : va_S A s.heap H locs) (hA : ∀ q, s.heap.size ≤ q → A q) (isC isR : List Nat) (hC : isC.map (fun i => ws[i]?) = wc.map some) (hR : isR.map (fun i => ws[i]?) = wr.map some) (hn1 : va_nd isC = true) (hn2 : va_nd isR = true) (hdis : (isR.all fun i => !isC.contains i) = true) {post : Int32 → va_W → Prop}
    (hM : Met l y wsC rm (va_Pc As (pre D g H.size wc)) (va_Qi post (wd D (va_A wc H.size)) (va_A wc H.size)) mc ms (va_A wc H.size)) (cw : CallB R s args own index y bytes maxL ret wsC rm mc ms n ∧ (Cond.static y).before args s = true)
    (hn : As.length = n) (hsize : ls.size = nL) (hst : st0 = As.reverse ++ rest) (hW : (rest.map fun v => v.category).sum ≤ 8) (hdg : decode cc pc = .ok (.invokestatic index, 3)) (hf : cells + mc ≤ R.cells ∧ slots + ms ≤ R.slots)
    (kk : ∀ (r : Int32) (u : va_W) (H1 : Heap) (locs1 : List Loc), post r u → va_P D vwCl (wr ++ u) H1 → va_D A (wr ++ u) → va_S A s.heap H1 locs1 → W p l e R s m args below meth c H1 locs1 (cells + mc) (slots + ms) Q (F0 m (pc + 3) ls (.int r :: rest))) : W p l e R s m args below meth c H locs cells slots Q (F0 m pc ls st0) := by
  have hF := va_free (wc := wc) hD hS hA isC hC
  have hPc := ky_sub hP hC
  have hDc := hD.sub isC hn1 hC
  refine va_calli (va_runS (As := As) (rest := rest) S hM cw ⟨ky_blind, ky_mk hPc hKN hDc ((hZ.kept hS.2.1).narrow hF)⟩ rfl hn hsize hst (lv_room hW) hdg hf) hS (fun q _ h => hF q h) hF (fun r u t H1 locs ht hvm hw hB hz1 hk1 hS => ?_)
  obtain ⟨hP1, hD1⟩ := hB
  rw [ht] at hP1
  obtain ⟨a, b⟩ := ky_back hP hD isC isR hC hR hn2 hdis hk1 hF hP1 hD1
  exact kk r u H1 locs hw a b hS
theorem ky_SNi (S : CallFix p m c cc nL s args Ts own) (hKN : kx D g s) (hZ : ks g A s s.heap) (hP : va_P D vwCl ws H) (hD : va_D A ws) (hS : va_S A s.heap H locs) (hA : ∀ q, s.heap.size ≤ q → A q) (isC isR : List Nat) (hC : isC.map (fun i => ws[i]?) = wc.map some) (hR : isR.map (fun i => ws[i]?) = wr.map some) (hn1 : va_nd isC = true) (hn2 : va_nd isR = true) (hdis : (isR.all fun i => !isC.contains i) = true) {post : Int32 → va_W → Prop}
    (hM : Met l y wsC rm (va_Pc As (pre D g H.size wc)) (va_Qi post (wd D (va_A wc H.size)) (va_A wc H.size)) mc ms (va_A wc H.size)) (cw : va_CN R s args own index y host bytes maxL ret wsC rm mc ms n ∧ (Cond.static y).before args s = true ∧ True)
    (hn : As.length = n) (hsize : ls.size = nL) (hst : st0 = As.reverse ++ rest) (hW : (rest.map fun v => v.category).sum ≤ 8) (hdg : decode cc pc = .ok (.invokestatic index, 3)) (hf : cells + mc ≤ R.cells ∧ slots + ms ≤ R.slots)
    (kk : ∀ (r : Int32) (u : va_W) (H1 : Heap) (locs1 : List Loc), post r u → va_P D vwCl (wr ++ u) H1 → va_D A (wr ++ u) → va_S A s.heap H1 locs1 → W p l e R s m args below meth c H1 locs1 (cells + mc) (slots + ms) Q (F0 m (pc + 3) ls (.int r :: rest))) : W p l e R s m args below meth c H locs cells slots Q (F0 m pc ls st0) := by
  have hF := va_free (wc := wc) hD hS hA isC hC
  have hPc := ky_sub hP hC
  have hDc := hD.sub isC hn1 hC
  refine va_calli (va_runSN (As := As) (rest := rest) S hM cw ⟨ky_blind, ky_mk hPc hKN hDc ((hZ.kept hS.2.1).narrow hF)⟩ rfl hn hsize hst (lv_room hW) hdg hf) hS (fun q _ h => hF q h) hF (fun r u t H1 locs ht hvm hw hB hz1 hk1 hS => ?_)
  obtain ⟨hP1, hD1⟩ := hB
  rw [ht] at hP1
  obtain ⟨a, b⟩ := ky_back hP hD isC isR hC hR hn2 hdis hk1 hF hP1 hD1
  exact kk r u H1 locs hw a b hS
theorem ky_Iv (S : CallFix p m c cc nL s args Ts own) (hKN : kx D g s) (hZ : ks g A s s.heap) (hP : va_P D vwCl ws H) (hD : va_D A ws) (hS : va_S A s.heap H locs) (hA : ∀ q, s.heap.size ≤ q → A q) (isC isR : List Nat) (hC : isC.map (fun i => ws[i]?) = wc.map some) (hR : isR.map (fun i => ws[i]?) = wr.map some) (hn1 : va_nd isC = true) (hn2 : va_nd isR = true) (hdis : (isR.all fun i => !isC.contains i) = true) {post : va_W → Prop}
    (hM : Met l y wsC rm (va_Pc (.ref b :: As) (pre D g H.size wc)) (va_Qv post (wd D (va_A wc H.size)) (va_A wc H.size)) mc ms (va_A wc H.size)) (cw : CallB R s args own index y bytes maxL none wsC rm mc ms n ∧ y.name = "<init>" ∧ (Cond.instanceMethod y).before args s = true)
    (hn : As.length = n) (hsize : ls.size = nL) (hst : st0 = As.reverse ++ .ref b :: rest) (hW : (rest.map fun v => v.category).sum ≤ 8) (hdg : decode cc pc = .ok (.invokespecial index, 3)) (hf : cells + mc ≤ R.cells ∧ slots + ms ≤ R.slots)
    (kk : ∀ (u : va_W) (H1 : Heap) (locs1 : List Loc), post u → va_P D vwCl (wr ++ u) H1 → va_D A (wr ++ u) → va_S A s.heap H1 locs1 → W p l e R s m args below meth c H1 locs1 (cells + mc) (slots + ms) Q (F0 m (pc + 3) ls rest)) : W p l e R s m args below meth c H locs cells slots Q (F0 m pc ls st0) := by
  have hF := va_free (wc := wc) hD hS hA isC hC
  have hPc := ky_sub hP hC
  have hDc := hD.sub isC hn1 hC
  refine va_callv (va_runI (As := As) (rest := rest) S hM cw ⟨ky_blind, ky_mk hPc hKN hDc ((hZ.kept hS.2.1).narrow hF)⟩ rfl hn hsize hst (lv_room hW) hdg hf) hS (fun q _ h => hF q h) hF (fun u t H1 locs ht hvm hw hB hz1 hk1 hS => ?_)
  obtain ⟨hP1, hD1⟩ := hB
  rw [ht] at hP1
  obtain ⟨a, b⟩ := ky_back hP hD isC isR hC hR hn2 hdis hk1 hF hP1 hD1
  exact kk u H1 locs hw a b hS
theorem ky_INv (S : CallFix p m c cc nL s args Ts own) (hKN : kx D g s) (hZ : ks g A s s.heap) (hP : va_P D vwCl ws H) (hD : va_D A ws) (hS : va_S A s.heap H locs) (hA : ∀ q, s.heap.size ≤ q → A q) (isC isR : List Nat) (hC : isC.map (fun i => ws[i]?) = wc.map some) (hR : isR.map (fun i => ws[i]?) = wr.map some) (hn1 : va_nd isC = true) (hn2 : va_nd isR = true) (hdis : (isR.all fun i => !isC.contains i) = true) {post : va_W → Prop}
    (hM : Met l y wsC rm (va_Pc (.ref b :: As) (pre D g H.size wc)) (va_Qv post (wd D (va_A wc H.size)) (va_A wc H.size)) mc ms (va_A wc H.size)) (cw : va_CN R s args own index y host bytes maxL none wsC rm mc ms n ∧ y.name = "<init>" ∧ (Cond.instanceMethod y).before args s = true)
    (hn : As.length = n) (hsize : ls.size = nL) (hst : st0 = As.reverse ++ .ref b :: rest) (hW : (rest.map fun v => v.category).sum ≤ 8) (hdg : decode cc pc = .ok (.invokespecial index, 3)) (hf : cells + mc ≤ R.cells ∧ slots + ms ≤ R.slots)
    (kk : ∀ (u : va_W) (H1 : Heap) (locs1 : List Loc), post u → va_P D vwCl (wr ++ u) H1 → va_D A (wr ++ u) → va_S A s.heap H1 locs1 → W p l e R s m args below meth c H1 locs1 (cells + mc) (slots + ms) Q (F0 m (pc + 3) ls rest)) : W p l e R s m args below meth c H locs cells slots Q (F0 m pc ls st0) := by
  have hF := va_free (wc := wc) hD hS hA isC hC
  have hPc := ky_sub hP hC
  have hDc := hD.sub isC hn1 hC
  refine va_callv (va_runIN (As := As) (rest := rest) S hM cw ⟨ky_blind, ky_mk hPc hKN hDc ((hZ.kept hS.2.1).narrow hF)⟩ rfl hn hsize hst (lv_room hW) hdg hf) hS (fun q _ h => hF q h) hF (fun u t H1 locs ht hvm hw hB hz1 hk1 hS => ?_)
  obtain ⟨hP1, hD1⟩ := hB
  rw [ht] at hP1
  obtain ⟨a, b⟩ := ky_back hP hD isC isR hC hR hn2 hdis hk1 hF hP1 hD1
  exact kk u H1 locs hw a b hS
end Rows
/-- a row of three references -/
def rf3 (a b c : Nat) : Nat → Option Nat := fun k => match k with
  | 0 => some a
  | 1 => some b
  | 2 => some c
  | _ => none
theorem rf3_of (a b c : Nat) : va_up (va_up (va_up (fun _ => none) 0 (some a)) 1 (some b)) 2 (some c) = rf3 a b c := by
  funext k
  match k with
  | 0 => rfl
  | 1 => rfl
  | 2 => rfl
  | k + 3 => simp [va_up, rf3]
end KY
end
section
/-! small facts on ints that are 0 or 1, and on bounds -/
theorem b01_0 {P : Prop} [Decidable P] : (if P then (1 : Int32) else 0) = 0 ↔ ¬ P := by
  by_cases h : P
  · rw [if_pos h]; exact ⟨fun e => absurd e (by decide), fun n => absurd h n⟩
  · rw [if_neg h]; exact ⟨fun _ => h, fun _ => rfl⟩
theorem b01_1 {P : Prop} [Decidable P] : ¬ (if P then (1 : Int32) else 0) = 0 ↔ P := by
  by_cases h : P
  · rw [if_pos h]; exact ⟨fun _ => h, fun _ => by decide⟩
  · rw [if_neg h]; exact ⟨fun e => absurd rfl e, fun n => absurd n h⟩
theorem ifm_n {P : Prop} [Decidable P] (h : (if P then (0 : Int32) else (-1)) = -1) : ¬ P := fun p => by
  rw [if_pos p] at h
  exact absurd h (by decide)
theorem ifm_y {P : Prop} [Decidable P] (h : ¬ (if P then (0 : Int32) else (-1)) = -1) : P := by
  by_cases p : P
  · exact p
  · rw [if_neg p] at h; exact absurd rfl h
theorem in_none (v : Int32) : (if (0 : Int32) ≤ v ∧ v ≤ (-1) then (1 : Int32) else 0) = 0 := by
  refine if_neg (fun h => ?_)
  have h1 := Int32.le_iff_toInt_le.mp h.1
  have h2 := Int32.le_iff_toInt_le.mp h.2
  have e0 : (0 : Int32).toInt = 0 := by decide
  have e1 : (-1 : Int32).toInt = -1 := by decide
  omega
theorem st_in {w : Int32} (h : (if w < 0 ∨ 3 < w then (1 : Int32) else 0) = 0) : vp_in w 4 := by
  have hn := b01_0.mp h
  rw [vp_in_iff]
  have e0 : (0 : Int32).toInt = 0 := by decide
  have e3 : (3 : Int32).toInt = 3 := by decide
  refine ⟨?_, ?_⟩
  · have h1 : ¬ w < 0 := fun q => hn (Or.inl q)
    rw [Int32.lt_iff_toInt_lt] at h1
    omega
  · have h1 : ¬ (3 : Int32) < w := fun q => hn (Or.inr q)
    rw [Int32.lt_iff_toInt_lt] at h1
    omega
theorem st_in2 {w : Int32} (h : ¬ (if 0 ≤ w ∧ w ≤ 3 then (1 : Int32) else 0) = 0) : vp_in w 4 := by
  have hn := b01_1.mp h
  rw [vp_in_iff]
  have e0 : (0 : Int32).toInt = 0 := by decide
  have e3 : (3 : Int32).toInt = 3 := by decide
  have h1 := Int32.le_iff_toInt_le.mp hn.1
  have h2 := Int32.le_iff_toInt_le.mp hn.2
  omega
theorem lw_nz {w : Int32} (h : ¬ (w < 1 ∨ 9 < w)) : ¬ w = 0 := fun e => h (Or.inl (by rw [e]; decide))
theorem lw_nz2 {w : Int32} (h : 1 ≤ w ∧ w ≤ 9) : ¬ w = 0 := fun e => by rw [e] at h; exact absurd h.1 (by decide)
theorem nz01 {P : Prop} [Decidable P] : narrow .boolean (.int (if P then (1 : Int32) else 0)) = .int (if P then (1 : Int32) else 0) := by
  by_cases h : P
  · rw [if_pos h]; rfl
  · rw [if_neg h]; rfl
/-- a byte counts, if it isn't 0 -/
def bz (v : Int32) : Nat := if v = 0 then 0 else 1
theorem bz_0 {v : Int32} (h : v = 0) : bz v = 0 := if_pos h
theorem bz_1 {v : Int32} (h : ¬ v = 0) : bz v = 1 := if_neg h
theorem bz_le (v : Int32) : bz v ≤ 1 := by unfold bz; split <;> omega
/-- the bytes of a word that count -/
def sg (w : Int32) : Nat := bz ((w.toUInt32 >>> ((24 : Int32).toUInt32 &&& Int32.toUInt32 31)).toInt32 &&& 255) + bz ((w.toUInt32 >>> ((16 : Int32).toUInt32 &&& Int32.toUInt32 31)).toInt32 &&& 255) + bz ((w.toUInt32 >>> ((8 : Int32).toUInt32 &&& Int32.toUInt32 31)).toInt32 &&& 255) + bz ((w.toUInt32 >>> ((0 : Int32).toUInt32 &&& Int32.toUInt32 31)).toInt32 &&& 255)
theorem sg_le (w : Int32) : sg w ≤ 4 := by
  unfold sg
  have h1 := bz_le ((w.toUInt32 >>> ((24 : Int32).toUInt32 &&& Int32.toUInt32 31)).toInt32 &&& 255)
  have h2 := bz_le ((w.toUInt32 >>> ((16 : Int32).toUInt32 &&& Int32.toUInt32 31)).toInt32 &&& 255)
  have h3 := bz_le ((w.toUInt32 >>> ((8 : Int32).toUInt32 &&& Int32.toUInt32 31)).toInt32 &&& 255)
  have h4 := bz_le ((w.toUInt32 >>> ((0 : Int32).toUInt32 &&& Int32.toUInt32 31)).toInt32 &&& 255)
  omega
end
section
/-! bits of an int: out of kit/laws/BITS.to-paste -/
def bt (x : Int32) (i : Nat) : Bool := x.toBitVec.getLsbD i
theorem b_ext {x y : Int32} (h : ∀ i, i < 32 → bt x i = bt y i) : x = y := Int32.toBitVec_inj.mp (BitVec.eq_of_getLsbD_eq (fun i hi => h i hi))
theorem b_and (x y : Int32) (i : Nat) : bt (x &&& y) i = (bt x i && bt y i) := by unfold bt; rw [Int32.toBitVec_and, BitVec.getLsbD_and]
theorem b_big {x : Int32} {i : Nat} (h : 32 ≤ i) : bt x i = false := BitVec.getLsbD_of_ge _ _ h
theorem b_255 (i : Nat) : bt 255 i = decide (i < 8) := by
  rcases Nat.lt_or_ge i 32 with h | h
  · exact (by decide +kernel : ∀ i, i < 32 → bt 255 i = decide (i < 8)) i h
  · rw [b_big h, decide_eq_false (by omega)]
theorem s_l : ∀ n, n < 32 → ((nI n &&& 31).toBitVec.smod 32).toNat = n := by decide +kernel
theorem s_u : ∀ n, n < 32 → (((nI n).toUInt32 &&& Int32.toUInt32 31).toBitVec % 32).toNat = n := by decide +kernel
theorem b_ushr (n : Nat) (hn : n < 32) (x : Int32) (i : Nat) : bt ((x.toUInt32 >>> ((nI n).toUInt32 &&& Int32.toUInt32 31)).toInt32) i = bt x (n + i) := by
  show (x.toUInt32 >>> ((nI n).toUInt32 &&& Int32.toUInt32 31)).toBitVec.getLsbD i = x.toUInt32.toBitVec.getLsbD (n + i)
  rw [UInt32.toBitVec_shiftRight]
  show (x.toUInt32.toBitVec >>> (((nI n).toUInt32 &&& Int32.toUInt32 31).toBitVec % 32).toNat).getLsbD i = _
  rw [s_u n hn, BitVec.getLsbD_ushiftRight]
theorem b_sshr (n : Nat) (hn : n < 32) (x : Int32) {i : Nat} (hi : i < 32) : bt (x >>> (nI n &&& 31)) i = if n + i < 32 then bt x (n + i) else bt x 31 := by
  unfold bt
  rw [Int32.toBitVec_shiftRight]
  show (x.toBitVec.sshiftRight ((nI n &&& 31).toBitVec.smod 32).toNat).getLsbD i = _
  rw [s_l n hn, BitVec.getLsbD_sshiftRight, BitVec.msb_eq_getLsbD_last]
  simp [hi]
/-- a byte, shifted down with or without the sign -/
theorem by8 (n : Nat) (hn : n ≤ 24) (w : Int32) : (w >>> (nI n &&& 31)) &&& 255 = (w.toUInt32 >>> ((nI n).toUInt32 &&& Int32.toUInt32 31)).toInt32 &&& 255 := by
  refine b_ext (fun i hi => ?_)
  rw [b_and, b_and, b_255, b_sshr n (by omega) w hi, b_ushr n (by omega)]
  by_cases h : i < 8
  · rw [if_pos (show n + i < 32 by omega)]
  · simp [h]
/-- the k-th byte of five words, as the reference takes it -/
def byr (a b c d e : Int32) (k : Nat) : Int32 := ((if k < 4 then a else if k < 8 then b else if k < 12 then c else if k < 16 then d else e) >>> (nI (24 - 8 * (k % 4)) &&& 31)) &&& 255
/-- how many of the first bytes count -/
def fct (f : Nat → Int32) : Nat → Nat
  | 0 => 0
  | k + 1 => fct f k + bz (f k)
theorem fct_le (f : Nat → Int32) : ∀ k, fct f k ≤ k
  | 0 => Nat.le_refl 0
  | k + 1 => by
    have h1 := fct_le f k
    have h2 := bz_le (f k)
    show fct f k + bz (f k) ≤ k + 1
    omega
theorem fct_0 {f : Nat → Int32} {k : Nat} (h : f k = 0) : fct f (k + 1) = fct f k := by
  show fct f k + bz (f k) = fct f k
  rw [bz_0 h, Nat.add_zero]
theorem fct_1 {f : Nat → Int32} {k : Nat} (h : ¬ f k = 0) : fct f (k + 1) = fct f k + 1 := by
  show fct f k + bz (f k) = fct f k + 1
  rw [bz_1 h]
theorem fct_4 (f : Nat → Int32) (k : Nat) : fct f (k + 4) = fct f k + (bz (f k) + bz (f (k + 1)) + bz (f (k + 2)) + bz (f (k + 3))) := by
  show fct f k + bz (f k) + bz (f (k + 1)) + bz (f (k + 2)) + bz (f (k + 3)) = _
  omega
theorem sg_of (w : Int32) : sg w = bz ((w >>> (nI 24 &&& 31)) &&& 255) + bz ((w >>> (nI 16 &&& 31)) &&& 255) + bz ((w >>> (nI 8 &&& 31)) &&& 255) + bz ((w >>> (nI 0 &&& 31)) &&& 255) := by
  rw [by8 24 (by omega), by8 16 (by omega), by8 8 (by omega), by8 0 (by omega)]
  rfl
/-- both count alike -/
theorem feed_eq (a b c d e : Int32) : nI (0 + sg a + sg b + sg c + sg d + sg e) = nI (fct (byr a b c d e) 20) := by
  have h0 : fct (byr a b c d e) 4 = fct (byr a b c d e) 0 + sg a := (fct_4 _ 0).trans (by rw [sg_of]; rfl)
  have h1 : fct (byr a b c d e) 8 = fct (byr a b c d e) 4 + sg b := (fct_4 _ 4).trans (by rw [sg_of]; rfl)
  have h2 : fct (byr a b c d e) 12 = fct (byr a b c d e) 8 + sg c := (fct_4 _ 8).trans (by rw [sg_of]; rfl)
  have h3 : fct (byr a b c d e) 16 = fct (byr a b c d e) 12 + sg d := (fct_4 _ 12).trans (by rw [sg_of]; rfl)
  have h4 : fct (byr a b c d e) 20 = fct (byr a b c d e) 16 + sg e := (fct_4 _ 16).trans (by rw [sg_of]; rfl)
  have hz : fct (byr a b c d e) 0 = 0 := rfl
  exact congrArg nI (by omega)
end
section
/-! a link alone, as numbers: sent, gone, known, in the buffer, cells and updates by the tick in which they come -/
abbrev AS : Type := Nat × Nat × Nat × Nat × (Nat → Bool) × (Nat → Nat)
def aB (t : Nat) (a : AS) : Nat := a.2.2.2.1 + (if a.2.2.2.2.1 t = true then 1 else 0)
def aK (t : Nat) (a : AS) : Nat := if a.2.2.2.2.2 t = 0 then a.2.2.1 else a.2.2.2.2.2 t
def aG (k t : Nat) (a : AS) : Nat := if t % k = 0 ∧ 0 < aB t a then a.2.1 + 1 else a.2.1
def al_s (d e z k t : Nat) (a : AS) : AS :=
  (if a.1 - aK t a < z then a.1 + 1 else a.1, aG k t a, aK t a, if t % k = 0 ∧ 0 < aB t a then aB t a - 1 else aB t a,
   if a.1 - aK t a < z then (fun j => if j = t + d then true else a.2.2.2.2.1 j) else a.2.2.2.2.1,
   if (t % k = 0 ∧ 0 < aB t a) ∧ aG k t a % e = 0 then (fun j => if j = t + d then aG k t a else a.2.2.2.2.2 j) else a.2.2.2.2.2)
def al (d e z k : Nat) : Nat → AS
  | 0 => (0, 0, 0, 0, fun _ => false, fun _ => 0)
  | t + 1 => al_s d e z k t (al d e z k t)
/-- cells that come in the n ticks from t on -/
def cs (C : Nat → Bool) (t : Nat) : Nat → Nat
  | 0 => 0
  | n + 1 => cs C t n + (if C (t + n) = true then 1 else 0)
theorem cs_shift (C : Nat → Bool) (t : Nat) : ∀ n, cs C t (n + 1) = (if C t = true then 1 else 0) + cs C (t + 1) n
  | 0 => by show 0 + (if C (t + 0) = true then 1 else 0) = (if C t = true then 1 else 0) + 0; rw [Nat.add_zero, Nat.zero_add, Nat.add_zero]
  | n + 1 => by
    have h := cs_shift C t n
    show cs C t (n + 1) + (if C (t + (n + 1)) = true then 1 else 0) = (if C t = true then 1 else 0) + (cs C (t + 1) n + (if C (t + 1 + n) = true then 1 else 0))
    rw [h, show t + (n + 1) = t + 1 + n by omega]
    omega
theorem cs_cong {C C' : Nat → Bool} {t : Nat} : ∀ {n : Nat}, (∀ i, i < n → C (t + i) = C' (t + i)) → cs C t n = cs C' t n
  | 0, _ => rfl
  | n + 1, h => by
    show cs C t n + (if C (t + n) = true then 1 else 0) = cs C' t n + (if C' (t + n) = true then 1 else 0)
    rw [cs_cong (fun i hi => h i (by omega)), h n (by omega)]
theorem cs_put {C : Nat → Bool} {t d : Nat} (hd : 0 < d) (hz : C (t + d) = false) : cs (fun j => if j = t + d then true else C j) (t + 1) d = cs C (t + 1) d + 1 := by
  obtain ⟨n, rfl⟩ : ∃ n, d = n + 1 := ⟨d - 1, by omega⟩
  show cs _ (t + 1) n + (if (if t + 1 + n = t + (n + 1) then true else C (t + 1 + n)) = true then 1 else 0) = cs C (t + 1) n + (if C (t + 1 + n) = true then 1 else 0) + 1
  have e1 : t + 1 + n = t + (n + 1) := by omega
  rw [if_pos e1, e1, hz, cs_cong (C' := C) (fun i hi => by rw [if_neg (show ¬ t + 1 + i = t + (n + 1) by omega)])]
  simp
/-- what holds of it at tick t -/
def aI (d z t : Nat) (a : AS) : Prop :=
  a.2.2.1 ≤ a.2.1 ∧ a.2.1 + a.2.2.2.1 + cs a.2.2.2.2.1 t d = a.1 ∧ a.1 ≤ a.2.2.1 + z ∧ a.1 ≤ t ∧ (∀ j, t + d ≤ j → a.2.2.2.2.1 j = false ∧ a.2.2.2.2.2 j = 0) ∧
  (∀ j, t ≤ j → ¬ a.2.2.2.2.2 j = 0 → a.2.2.1 ≤ a.2.2.2.2.2 j ∧ a.2.2.2.2.2 j ≤ a.2.1) ∧ (∀ i j, t ≤ i → i < j → ¬ a.2.2.2.2.2 i = 0 → ¬ a.2.2.2.2.2 j = 0 → a.2.2.2.2.2 i ≤ a.2.2.2.2.2 j)
theorem aI_0 (d z : Nat) : aI d z 0 (0, 0, 0, 0, fun _ => false, fun _ => 0) := by
  refine ⟨Nat.le_refl _, ?_, Nat.zero_le _, Nat.le_refl _, fun _ _ => ⟨rfl, rfl⟩, fun j _ h => absurd rfl h, fun i j _ _ h => absurd rfl h⟩
  show 0 + 0 + cs (fun _ => false) 0 d = 0
  have h : ∀ n, cs (fun _ => false) 0 n = 0 := by
    intro n
    induction n with
    | zero => rfl
    | succ n ih => show cs (fun _ => false) 0 n + (if false = true then 1 else 0) = 0; rw [ih]; rfl
  rw [h]
/-- what is known stays between what was known and what is gone -/
theorem aK_in {d z t : Nat} {a : AS} (h : aI d z t a) : a.2.2.1 ≤ aK t a ∧ aK t a ≤ a.2.1 := by
  unfold aK
  by_cases hu : a.2.2.2.2.2 t = 0
  · rw [if_pos hu]; exact ⟨Nat.le_refl _, h.1⟩
  · rw [if_neg hu]; exact h.2.2.2.2.2.1 t (Nat.le_refl t) hu
theorem aG_in (k t : Nat) (a : AS) : a.2.1 ≤ aG k t a ∧ aG k t a ≤ a.2.1 + 1 := by
  unfold aG
  split <;> omega
theorem aB_in {d z t : Nat} {a : AS} (hd : 0 < d) (h : aI d z t a) : a.2.1 + aB t a + cs a.2.2.2.2.1 (t + 1) (d - 1) = a.1 := by
  have h1 := h.2.1
  obtain ⟨n, rfl⟩ : ∃ n, d = n + 1 := ⟨d - 1, by omega⟩
  rw [cs_shift] at h1
  unfold aB
  rw [Nat.add_sub_cancel]
  omega
theorem cs_last {C : Nat → Bool} {t d : Nat} (hd : 0 < d) (hz : C (t + d) = false) : cs C (t + 1) d = cs C (t + 1) (d - 1) := by
  obtain ⟨n, rfl⟩ : ∃ n, d = n + 1 := ⟨d - 1, by omega⟩
  show cs C (t + 1) n + (if C (t + 1 + n) = true then 1 else 0) = cs C (t + 1) n
  rw [show t + 1 + n = t + (n + 1) by omega, hz]
  simp
theorem aI_s {d e z k t : Nat} {a : AS} (hd : 0 < d) (h : aI d z t a) : aI d z (t + 1) (al_s d e z k t a) := by
  have hK := aK_in h
  have hG := aG_in k t a
  have hB := aB_in hd h
  obtain ⟨h1, h2, h3, h4, h5, h6, h7⟩ := h
  have hcz := (h5 (t + d) (Nat.le_refl _)).1
  have huz := (h5 (t + d) (Nat.le_refl _)).2
  have hcl := cs_last hd hcz
  refine ⟨?_, ?_, ?_, ?_, ?_, ?_, ?_⟩
  · show aK t a ≤ aG k t a
    omega
  · show aG k t a + (if t % k = 0 ∧ 0 < aB t a then aB t a - 1 else aB t a) + cs (if a.1 - aK t a < z then (fun j => if j = t + d then true else a.2.2.2.2.1 j) else a.2.2.2.2.1) (t + 1) d = if a.1 - aK t a < z then a.1 + 1 else a.1
    have e1 : aG k t a + (if t % k = 0 ∧ 0 < aB t a then aB t a - 1 else aB t a) = a.2.1 + aB t a := by
      unfold aG
      by_cases ht : t % k = 0 ∧ 0 < aB t a
      · rw [if_pos ht, if_pos ht]; have := ht.2; omega
      · rw [if_neg ht, if_neg ht]
    rw [e1]
    by_cases hs : a.1 - aK t a < z
    · rw [if_pos hs, if_pos hs, cs_put hd hcz, hcl]; omega
    · rw [if_neg hs, if_neg hs, hcl]; omega
  · show (if a.1 - aK t a < z then a.1 + 1 else a.1) ≤ aK t a + z
    split <;> omega
  · show (if a.1 - aK t a < z then a.1 + 1 else a.1) ≤ t + 1
    split <;> omega
  · intro j hj
    refine ⟨?_, ?_⟩
    · show (if a.1 - aK t a < z then (fun j => if j = t + d then true else a.2.2.2.2.1 j) else a.2.2.2.2.1) j = false
      split
      · show (if j = t + d then true else a.2.2.2.2.1 j) = false
        rw [if_neg (show ¬ j = t + d by omega)]; exact (h5 j (by omega)).1
      · exact (h5 j (by omega)).1
    · show (if (t % k = 0 ∧ 0 < aB t a) ∧ aG k t a % e = 0 then (fun j => if j = t + d then aG k t a else a.2.2.2.2.2 j) else a.2.2.2.2.2) j = 0
      split
      · show (if j = t + d then aG k t a else a.2.2.2.2.2 j) = 0
        rw [if_neg (show ¬ j = t + d by omega)]; exact (h5 j (by omega)).2
      · exact (h5 j (by omega)).2
  · intro j hj
    show ¬ (if (t % k = 0 ∧ 0 < aB t a) ∧ aG k t a % e = 0 then (fun j => if j = t + d then aG k t a else a.2.2.2.2.2 j) else a.2.2.2.2.2) j = 0 → aK t a ≤ (if (t % k = 0 ∧ 0 < aB t a) ∧ aG k t a % e = 0 then (fun j => if j = t + d then aG k t a else a.2.2.2.2.2 j) else a.2.2.2.2.2) j ∧ (if (t % k = 0 ∧ 0 < aB t a) ∧ aG k t a % e = 0 then (fun j => if j = t + d then aG k t a else a.2.2.2.2.2 j) else a.2.2.2.2.2) j ≤ aG k t a
    have hold : ¬ a.2.2.2.2.2 j = 0 → aK t a ≤ a.2.2.2.2.2 j ∧ a.2.2.2.2.2 j ≤ aG k t a := by
      intro hn
      have q := h6 j (by omega) hn
      refine ⟨?_, by omega⟩
      unfold aK
      by_cases hu : a.2.2.2.2.2 t = 0
      · rw [if_pos hu]; exact q.1
      · rw [if_neg hu]; exact h7 t j (Nat.le_refl t) (by omega) hu hn
    split
    · show ¬ (if j = t + d then aG k t a else a.2.2.2.2.2 j) = 0 → aK t a ≤ (if j = t + d then aG k t a else a.2.2.2.2.2 j) ∧ (if j = t + d then aG k t a else a.2.2.2.2.2 j) ≤ aG k t a
      by_cases hj2 : j = t + d
      · rw [if_pos hj2]; intro _; omega
      · rw [if_neg hj2]; exact hold
    · exact hold
  · intro i j hi hij
    show ¬ (if (t % k = 0 ∧ 0 < aB t a) ∧ aG k t a % e = 0 then (fun j => if j = t + d then aG k t a else a.2.2.2.2.2 j) else a.2.2.2.2.2) i = 0 → ¬ (if (t % k = 0 ∧ 0 < aB t a) ∧ aG k t a % e = 0 then (fun j => if j = t + d then aG k t a else a.2.2.2.2.2 j) else a.2.2.2.2.2) j = 0 → (if (t % k = 0 ∧ 0 < aB t a) ∧ aG k t a % e = 0 then (fun j => if j = t + d then aG k t a else a.2.2.2.2.2 j) else a.2.2.2.2.2) i ≤ (if (t % k = 0 ∧ 0 < aB t a) ∧ aG k t a % e = 0 then (fun j => if j = t + d then aG k t a else a.2.2.2.2.2 j) else a.2.2.2.2.2) j
    split
    · show ¬ (if i = t + d then aG k t a else a.2.2.2.2.2 i) = 0 → ¬ (if j = t + d then aG k t a else a.2.2.2.2.2 j) = 0 → (if i = t + d then aG k t a else a.2.2.2.2.2 i) ≤ (if j = t + d then aG k t a else a.2.2.2.2.2 j)
      by_cases hi2 : i = t + d
      · have hj0 := (h5 j (by omega)).2
        rw [if_pos hi2, if_neg (show ¬ j = t + d by omega)]
        intro _ hn
        exact absurd hj0 hn
      · rw [if_neg hi2]
        by_cases hj2 : j = t + d
        · rw [if_pos hj2]
          intro hn _
          have q := h6 i (by omega) hn
          omega
        · rw [if_neg hj2]
          intro hn hm
          exact h7 i j (by omega) hij hn hm
    · intro hn hm
      exact h7 i j (by omega) hij hn hm
theorem aI_al (d e z k : Nat) (hd : 0 < d) : ∀ t, aI d z t (al d e z k t)
  | 0 => aI_0 d z
  | t + 1 => aI_s hd (aI_al d e z k hd t)
end
section
/-! the class's slots and counters beside these numbers -/
def sC (t : Nat) (C : Nat → Bool) (fc : Nat → Int32) : Prop := ∀ i, i < 5 → fc ((t + i) % 5) = if C (t + i) = true then 0 else -1
def sU (t : Nat) (U : Nat → Nat) (fu : Nat → Int32) : Prop := ∀ i, i < 5 → fu ((t + i) % 5 * 3 + 0) = if U (t + i) = 0 then -1 else nI (U (t + i) % 64)
/-- fields of the lane (SENT, GONE, KNOWN, since the update, since ADAPT), the slots, the buffers -/
def aF (e t : Nat) (a : AS) (f0 f1 f2 f5 f6 : Int32) (fc fu fp fb : Nat → Int32) : Prop :=
  f0 = nI (a.1 % 64) ∧ f1 = nI (a.2.1 % 64) ∧ f2 = nI (a.2.2.1 % 64) ∧ f5 = nI (a.2.1 % e) ∧ f6 = nI a.1 ∧ sC t a.2.2.2.2.1 fc ∧ sU t a.2.2.2.2.2 fu ∧ (∀ j, j < 5 → fp (j * 3 + 0) = 0) ∧ fb 0 = nI (201 - a.1) ∧ fb 3 = nI a.2.2.2.1
theorem sC_clear {t d : Nat} {C : Nat → Bool} {fc : Nat → Int32} (hd : d < 5) (h : sC t C fc) (hz : ∀ j, t + d ≤ j → C j = false) : sC (t + 1) C (upd fc (t % 5) (-1)) := by
  intro i hi
  by_cases h4 : i = 4
  · subst h4
    rw [show (t + 1 + 4) % 5 = t % 5 by omega, pk_us, hz (t + 1 + 4) (by omega)]
    rfl
  · rw [pk_un (show (t + 1 + i) % 5 ≠ t % 5 by omega), show t + 1 + i = t + (i + 1) by omega]
    exact h (i + 1) (by omega)
theorem sC_put {t d : Nat} {C : Nat → Bool} {fc : Nat → Int32} (h0 : 0 < d) (hd : d < 5) (h : sC (t + 1) C fc) : sC (t + 1) (fun j => if j = t + d then true else C j) (upd fc ((t + d) % 5) 0) := by
  intro i hi
  show upd fc ((t + d) % 5) 0 ((t + 1 + i) % 5) = if (if t + 1 + i = t + d then true else C (t + 1 + i)) = true then 0 else -1
  by_cases h4 : i + 1 = d
  · rw [show (t + 1 + i) % 5 = (t + d) % 5 by omega, pk_us, if_pos (show t + 1 + i = t + d by omega)]
    rfl
  · rw [pk_un (show (t + 1 + i) % 5 ≠ (t + d) % 5 by omega), if_neg (show ¬ t + 1 + i = t + d by omega)]
    exact h i hi
theorem sU_clear {t d : Nat} {U : Nat → Nat} {fu : Nat → Int32} (hd : d < 5) (h : sU t U fu) (hz : ∀ j, t + d ≤ j → U j = 0) : sU (t + 1) U (upd (upd (upd fu (t % 5 * 3 + 0) (-1)) (t % 5 * 3 + 1) (-1)) (t % 5 * 3 + 2) (-1)) := by
  intro i hi
  by_cases h4 : i = 4
  · subst h4
    rw [show (t + 1 + 4) % 5 = t % 5 by omega, pk_un (show t % 5 * 3 + 0 ≠ t % 5 * 3 + 2 by omega), pk_un (show t % 5 * 3 + 0 ≠ t % 5 * 3 + 1 by omega), pk_us, hz (t + 1 + 4) (by omega)]
    rfl
  · rw [pk_un (show (t + 1 + i) % 5 * 3 + 0 ≠ t % 5 * 3 + 2 by omega), pk_un (show (t + 1 + i) % 5 * 3 + 0 ≠ t % 5 * 3 + 1 by omega), pk_un (show (t + 1 + i) % 5 * 3 + 0 ≠ t % 5 * 3 + 0 by omega), show t + 1 + i = t + (i + 1) by omega]
    exact h (i + 1) (by omega)
theorem sU_put {t d v : Nat} {U : Nat → Nat} {fu : Nat → Int32} (h0 : 0 < d) (hd : d < 5) (hv : ¬ v = 0) (h : sU (t + 1) U fu) : sU (t + 1) (fun j => if j = t + d then v else U j) (upd fu ((t + d) % 5 * 3 + 0) (nI (v % 64))) := by
  intro i hi
  show upd fu ((t + d) % 5 * 3 + 0) (nI (v % 64)) ((t + 1 + i) % 5 * 3 + 0) = if (if t + 1 + i = t + d then v else U (t + 1 + i)) = 0 then -1 else nI ((if t + 1 + i = t + d then v else U (t + 1 + i)) % 64)
  by_cases h4 : i + 1 = d
  · rw [show (t + 1 + i) % 5 * 3 + 0 = (t + d) % 5 * 3 + 0 by omega, pk_us, if_pos (show t + 1 + i = t + d by omega), if_neg hv]
  · rw [pk_un (show (t + 1 + i) % 5 * 3 + 0 ≠ (t + d) % 5 * 3 + 0 by omega), if_neg (show ¬ t + 1 + i = t + d by omega)]
    exact h i hi
theorem fp_clear {t : Nat} {fp : Nat → Int32} (h : ∀ j, j < 5 → fp (j * 3 + 0) = 0) : ∀ j, j < 5 → (upd (upd (upd fp (t % 5 * 3 + 0) 0) (t % 5 * 3 + 1) 0) (t % 5 * 3 + 2) 0) (j * 3 + 0) = 0 := by
  intro j hj
  rw [pk_un (show j * 3 + 0 ≠ t % 5 * 3 + 2 by omega), pk_un (show j * 3 + 0 ≠ t % 5 * 3 + 1 by omega)]
  by_cases h4 : j = t % 5
  · rw [h4, pk_us]
  · rw [pk_un (show j * 3 + 0 ≠ t % 5 * 3 + 0 by omega)]
    exact h j hj
theorem m64_sub : ∀ a, a < 64 → ∀ b, b < 64 → (nI a - nI b) &&& 63 = nI ((a + 64 - b) % 64) := by decide +kernel
theorem m64_out {s k : Nat} (h1 : k ≤ s) (h2 : s < k + 64) : (nI (s % 64) - nI (k % 64)) &&& 63 = nI (s - k) := by
  rw [m64_sub _ (Nat.mod_lt _ (by omega)) _ (Nat.mod_lt _ (by omega))]
  exact congrArg nI (by omega)
theorem m64_inc (s : Nat) : (nI (s % 64) + 1) &&& 63 = nI ((s + 1) % 64) := by
  rw [nI_1, pk_andN (show s % 64 + 1 < 2 ^ 32 by omega) 6 (by decide)]
  exact congrArg nI (by omega)
theorem up3_ne {f : Nat → Int32} {v : Int32} {j : Nat} (h : j ≠ 3) : upd f 3 v j = f j := pk_un h
theorem nI_gt0 {n : Nat} (h : n < 2 ^ 31) : (0 : Int32) < nI n ↔ 0 < n := by
  have q := nI_ltI (a := 0) (b := n) (by decide) h
  rw [nI_0] at q
  exact q
theorem m1_ne {n : Nat} (h : n < 2 ^ 31) : ¬ nI n = -1 := fun q => by
  have e1 := congrArg Int32.toInt q
  rw [nI_toInt h] at e1
  have e2 : (-1 : Int32).toInt = -1 := by decide
  omega
set_option maxHeartbeats 1000000 in
/-- a TICK of the class is a step of the numbers -/
theorem al_main {d e z k t : Nat} {a : AS} {f0 f1 f2 f5 f6 kn g5 g52 f12 su2 lt lt2 f02 f62 : Int32} {fc fu fp fb fb1 fb2 fb3 fu2 fc3 : Nat → Int32} (h0 : 0 < d) (hd : d < 5) (he0 : 0 < e) (he : e < 5) (hz : z ≤ 30) (ht : t ≤ 200)
    (hF : aF e t a f0 f1 f2 f5 f6 fc fu fp fb) (hI : aI d z t a) (hlt : lt = -1 ∨ lt = 0)
    (h1 : fb1 = (if fc (t % 5) = -1 then fb else upd fb 3 (fb 3 + 1)))
    (h2 : kn = (if fu (t % 5 * 3 + 0) = -1 then f2 else (if ((fu (t % 5 * 3 + 0) - f2) &&& 63) < 32 then fu (t % 5 * 3 + 0) else f2)))
    (t1 : (t % k = 0 ∧ 0 < fb1 3) → fb2 = upd fb1 3 (fb1 3 - 1) ∧ g52 = g5 + 1 ∧ f12 = ((f1 + 1) &&& 63) ∧ (f5 + 1 < nI e → su2 = f5 + 1 ∧ fu2 = upd (upd (upd fu (t % 5 * 3 + 0) (-1)) (t % 5 * 3 + 1) (-1)) (t % 5 * 3 + 2) (-1)) ∧ (¬ f5 + 1 < nI e → su2 = 0 ∧ fu2 = upd (upd (upd (upd fu (t % 5 * 3 + 0) (-1)) (t % 5 * 3 + 1) (-1)) (t % 5 * 3 + 2) (-1)) ((t + d) % 5 * 3 + 0) ((f1 + 1) &&& 63)))
    (t2 : ¬ (t % k = 0 ∧ 0 < fb1 3) → fb2 = fb1 ∧ g52 = g5 ∧ f12 = f1 ∧ su2 = f5 ∧ fu2 = upd (upd (upd fu (t % 5 * 3 + 0) (-1)) (t % 5 * 3 + 1) (-1)) (t % 5 * 3 + 2) (-1))
    (s1 : (0 < fb2 0 ∧ ((f0 - kn) &&& 63) < nI z) → fb3 = upd fb2 0 (fb2 0 - 1) ∧ lt2 = 0 ∧ fc3 = upd (upd fc (t % 5) (-1)) ((t + d) % 5) 0 ∧ f02 = ((f0 + 1) &&& 63) ∧ f62 = f6 + 1)
    (s2 : ¬ (0 < fb2 0 ∧ ((f0 - kn) &&& 63) < nI z) → fb3 = fb2 ∧ lt2 = lt ∧ fc3 = upd fc (t % 5) (-1) ∧ f02 = f0 ∧ f62 = f6) :
    aF e (t + 1) (al_s d e z k t a) f02 f12 kn su2 f62 fc3 fu2 (upd (upd (upd fp (t % 5 * 3 + 0) 0) (t % 5 * 3 + 1) 0) (t % 5 * 3 + 2) 0) fb3 ∧ (lt2 = -1 ∨ lt2 = 0) := by
  obtain ⟨q0, q1, q2, q5, q6, qC, qU, qp, qb0, qb3⟩ := hF
  have hK := aK_in hI
  have hB := aB_in h0 hI
  have hG := aG_in k t a
  obtain ⟨i1, i2, i3, i4, i5, i6, i7⟩ := hI
  -- ARRIVE
  have c0 : fc (t % 5) = if a.2.2.2.2.1 t = true then 0 else -1 := qC 0 (by omega)
  have u0 : fu (t % 5 * 3 + 0) = if a.2.2.2.2.2 t = 0 then -1 else nI (a.2.2.2.2.2 t % 64) := qU 0 (by omega)
  have e3 : fb1 3 = nI (aB t a) := by
    unfold aB
    rw [h1, c0]
    by_cases hc : a.2.2.2.2.1 t = true
    · rw [if_pos hc, if_pos hc, if_neg (by decide), pk_us, qb3, nI_1]
    · rw [if_neg hc, if_neg hc, if_pos rfl, qb3]
      rfl
  have e0 : fb1 0 = nI (201 - a.1) := by
    rw [h1]
    by_cases hc : fc (t % 5) = -1
    · rw [if_pos hc, qb0]
    · rw [if_neg hc, pk_un (by decide), qb0]
  have ek : kn = nI (aK t a % 64) := by
    unfold aK
    rw [h2, u0, q2]
    by_cases hu : a.2.2.2.2.2 t = 0
    · rw [if_pos hu, if_pos hu, if_pos rfl]
    · have q := i6 t (Nat.le_refl t) hu
      rw [if_neg hu, if_neg hu, if_neg (m1_ne (by omega)), m64_out q.1 (by omega)]
      exact if_pos (nI_lt (show a.2.2.2.2.2 t - a.2.2.1 < 32 by omega) (by decide))
  have sC1 := sC_clear hd qC (fun j hj => (i5 j hj).1)
  have sU1 := sU_clear hd qU (fun j hj => (i5 j hj).2)
  have hT : (t % k = 0 ∧ 0 < fb1 3) ↔ (t % k = 0 ∧ 0 < aB t a) := by
    rw [e3, nI_gt0 (by omega)]
  -- TAKE
  have eT : fb2 3 = nI (if t % k = 0 ∧ 0 < aB t a then aB t a - 1 else aB t a) ∧ fb2 0 = nI (201 - a.1) ∧ f12 = nI (aG k t a % 64) ∧ su2 = nI (aG k t a % e) ∧ sU (t + 1) (if (t % k = 0 ∧ 0 < aB t a) ∧ aG k t a % e = 0 then (fun j => if j = t + d then aG k t a else a.2.2.2.2.2 j) else a.2.2.2.2.2) fu2 := by
    by_cases hk : t % k = 0 ∧ 0 < aB t a
    · obtain ⟨x1, -, x3, x4, x5⟩ := t1 (hT.mpr hk)
      have eg : aG k t a = a.2.1 + 1 := if_pos hk
      have hp := hk.2
      have e13 : f12 = nI (aG k t a % 64) := by rw [x3, q1, m64_inc, eg]
      refine ⟨?_, ?_, e13, ?_⟩
      · rw [x1, pk_us, e3, if_pos hk]
        exact pk_sub (show 1 ≤ aB t a by omega)
      · rw [x1, pk_un (by decide), e0]
      · have hm : f5 + 1 = nI (a.2.1 % e + 1) := by rw [q5, nI_1]
        have hlt1 : (f5 + 1 < nI e) ↔ a.2.1 % e + 1 < e := by rw [hm]; exact nI_ltI (by have := Nat.mod_lt a.2.1 he0; omega) (by omega)
        have hml := Nat.mod_lt a.2.1 he0
        by_cases hq : a.2.1 % e + 1 < e
        · obtain ⟨y1, y2⟩ := x4 (hlt1.mpr hq)
          have em : aG k t a % e = a.2.1 % e + 1 := by
            rw [eg]
            rcases (show e = 1 ∨ e = 2 ∨ e = 3 ∨ e = 4 by omega) with rfl | rfl | rfl | rfl <;> omega
          refine ⟨by rw [y1, hm, em], ?_⟩
          rw [if_neg (fun q => by have := q.2; omega), y2]
          exact sU1
        · obtain ⟨y1, y2⟩ := x5 (fun q => hq (hlt1.mp q))
          have em : aG k t a % e = 0 := by
            rw [eg]
            rcases (show e = 1 ∨ e = 2 ∨ e = 3 ∨ e = 4 by omega) with rfl | rfl | rfl | rfl <;> omega
          refine ⟨by rw [y1, em]; rfl, ?_⟩
          rw [if_pos ⟨hk, em⟩, y2, ← x3, e13]
          exact sU_put h0 hd (by omega) sU1
    · obtain ⟨x1, -, x3, x4, x5⟩ := t2 (fun q => hk (hT.mp q))
      have eg : aG k t a = a.2.1 := if_neg hk
      refine ⟨by rw [x1, e3, if_neg hk], by rw [x1, e0], by rw [x3, q1, eg], by rw [x4, q5, eg], ?_⟩
      rw [if_neg (fun q => hk q.1), x5]
      exact sU1
  obtain ⟨b3, b0, eg1, esu, sU2⟩ := eT
  -- SEND
  have ho : (f0 - kn) &&& 63 = nI (a.1 - aK t a) := by rw [q0, ek]; exact m64_out (by omega) (by omega)
  have hs : (0 < fb2 0 ∧ ((f0 - kn) &&& 63) < nI z) ↔ a.1 - aK t a < z := by
    rw [b0, ho, nI_gt0 (by omega), nI_ltI (by omega) (by omega)]
    exact ⟨fun q => q.2, fun q => ⟨by omega, q⟩⟩
  by_cases hq : a.1 - aK t a < z
  · obtain ⟨x1, x2, x3, x4, x5⟩ := s1 (hs.mpr hq)
    refine ⟨⟨?_, eg1, ek, esu, ?_, ?_, sU2, fp_clear qp, ?_, ?_⟩, Or.inr x2⟩
    · show f02 = nI ((if a.1 - aK t a < z then a.1 + 1 else a.1) % 64)
      rw [if_pos hq, x4, q0, m64_inc]
    · show f62 = nI (if a.1 - aK t a < z then a.1 + 1 else a.1)
      rw [if_pos hq, x5, q6, nI_1]
    · show sC (t + 1) (if a.1 - aK t a < z then (fun j => if j = t + d then true else a.2.2.2.2.1 j) else a.2.2.2.2.1) fc3
      rw [if_pos hq, x3]
      exact sC_put h0 hd sC1
    · show fb3 0 = nI (201 - (if a.1 - aK t a < z then a.1 + 1 else a.1))
      rw [if_pos hq, x1, pk_us, b0]
      exact (pk_sub (show 1 ≤ 201 - a.1 by omega)).trans (congrArg nI (by omega))
    · show fb3 3 = nI (if t % k = 0 ∧ 0 < aB t a then aB t a - 1 else aB t a)
      rw [x1, pk_un (by decide), b3]
  · obtain ⟨x1, x2, x3, x4, x5⟩ := s2 (fun q => hq (hs.mp q))
    refine ⟨⟨?_, eg1, ek, esu, ?_, ?_, sU2, fp_clear qp, ?_, ?_⟩, by rw [x2]; exact hlt⟩
    · show f02 = nI ((if a.1 - aK t a < z then a.1 + 1 else a.1) % 64)
      rw [if_neg hq, x4, q0]
    · show f62 = nI (if a.1 - aK t a < z then a.1 + 1 else a.1)
      rw [if_neg hq, x5, q6]
    · show sC (t + 1) (if a.1 - aK t a < z then (fun j => if j = t + d then true else a.2.2.2.2.1 j) else a.2.2.2.2.1) fc3
      rw [if_neg hq, x3]
      exact sC1
    · show fb3 0 = nI (201 - (if a.1 - aK t a < z then a.1 + 1 else a.1))
      rw [if_neg hq, x1, b0]
    · show fb3 3 = nI (if t % k = 0 ∧ 0 < aB t a then aB t a - 1 else aB t a)
      rw [x1, b3]
theorem aF_c {e t : Nat} {a : AS} {f0 f1 f2 f5 f6 : Int32} {fc fu fp fb : Nat → Int32} (h : aF e t a f0 f1 f2 f5 f6 fc fu fp fb) : fc (t % 5) = -1 ∨ fc (t % 5) = 0 := by
  have c0 : fc (t % 5) = if a.2.2.2.2.1 t = true then 0 else -1 := h.2.2.2.2.2.1 0 (by omega)
  rw [c0]
  split
  · exact Or.inr rfl
  · exact Or.inl rfl
theorem aF_p {e t : Nat} {a : AS} {f0 f1 f2 f5 f6 : Int32} {fc fu fp fb : Nat → Int32} (h : aF e t a f0 f1 f2 f5 f6 fc fu fp fb) : fp (t % 5 * 3 + 0) = 0 := h.2.2.2.2.2.2.2.1 (t % 5) (Nat.mod_lt _ (by omega))
theorem aF_0 {d e z k : Nat} {fc fu fp fb : Nat → Int32} (h1 : ∀ j, j < 12 → 0 < j → fb j = 0) (h2 : fb 0 = 201) (h3 : ∀ j, j < 5 → fc j = -1) (h4 : ∀ j, j < 15 → fu j = -1) (h5 : ∀ j, j < 15 → fp j = 0) : aF e 0 (al d e z k 0) 0 0 0 0 0 fc fu fp fb := by
  refine ⟨rfl, rfl, rfl, ?_, rfl, fun i hi => h3 _ (by omega), fun i hi => h4 _ (by omega), fun j hj => h5 _ (by omega), h2, h1 3 (by omega) (by omega)⟩
  show (0 : Int32) = nI (0 % e)
  rw [Nat.zero_mod]
  rfl
end
section
/-! the same numbers by what was sent and gone so many ticks ago; more zone, no fewer sent -/
section Mono
variable {d e z k : Nat}
theorem al_1 (t : Nat) : (al d e z k (t + 1)).1 = if (al d e z k t).1 - aK t (al d e z k t) < z then (al d e z k t).1 + 1 else (al d e z k t).1 := rfl
theorem al_2 (t : Nat) : (al d e z k (t + 1)).2.1 = if t % k = 0 ∧ 0 < aB t (al d e z k t) then (al d e z k t).2.1 + 1 else (al d e z k t).2.1 := rfl
theorem al_3 (t : Nat) : (al d e z k (t + 1)).2.2.1 = aK t (al d e z k t) := rfl
theorem al_4 (t : Nat) : (al d e z k (t + 1)).2.2.2.1 = if t % k = 0 ∧ 0 < aB t (al d e z k t) then aB t (al d e z k t) - 1 else aB t (al d e z k t) := rfl
theorem al_S (t : Nat) : (al d e z k t).1 ≤ (al d e z k (t + 1)).1 ∧ (al d e z k (t + 1)).1 ≤ (al d e z k t).1 + 1 := by
  rw [al_1]
  split <;> omega
theorem al_Gs (t : Nat) : (al d e z k t).2.1 ≤ (al d e z k (t + 1)).2.1 ∧ (al d e z k (t + 1)).2.1 ≤ (al d e z k t).2.1 + 1 := by
  rw [al_2]
  split <;> omega
theorem al_C : ∀ t j, ((al d e z k t).2.2.2.2.1 j = true ↔ d ≤ j ∧ j - d < t ∧ (al d e z k (j - d + 1)).1 = (al d e z k (j - d)).1 + 1)
  | 0, j => ⟨fun h => absurd h (by show ¬ false = true; decide), fun h => absurd h.2.1 (Nat.not_lt_zero _)⟩
  | t + 1, j => by
    have ih := al_C t j
    show ((if (al d e z k t).1 - aK t (al d e z k t) < z then (fun j => if j = t + d then true else (al d e z k t).2.2.2.2.1 j) else (al d e z k t).2.2.2.2.1) j = true ↔ _)
    by_cases hj : j = t + d
    · subst hj
      rw [show t + d - d = t by omega, al_1]
      rw [show t + d - d = t by omega] at ih
      have hno : ¬ (al d e z k t).2.2.2.2.1 (t + d) = true := fun q => absurd (ih.mp q).2.1 (Nat.lt_irrefl t)
      by_cases hs : (al d e z k t).1 - aK t (al d e z k t) < z
      · rw [if_pos hs, if_pos hs]
        show ((if t + d = t + d then true else _) = true ↔ _)
        rw [if_pos rfl]
        exact ⟨fun _ => ⟨by omega, by omega, rfl⟩, fun _ => rfl⟩
      · rw [if_neg hs, if_neg hs]
        exact ⟨fun q => absurd q hno, fun q => absurd q.2.2 (by omega)⟩
    · have e1 : (if (al d e z k t).1 - aK t (al d e z k t) < z then (fun j => if j = t + d then true else (al d e z k t).2.2.2.2.1 j) else (al d e z k t).2.2.2.2.1) j = (al d e z k t).2.2.2.2.1 j := by
        split
        · show (if j = t + d then true else _) = _
          rw [if_neg hj]
        · rfl
      rw [e1, ih]
      exact ⟨fun q => ⟨q.1, by omega, q.2.2⟩, fun q => ⟨q.1, by omega, q.2.2⟩⟩
theorem al_U : ∀ t j, (al d e z k t).2.2.2.2.2 j = if d ≤ j ∧ j - d < t ∧ (al d e z k (j - d + 1)).2.1 = (al d e z k (j - d)).2.1 + 1 ∧ (al d e z k (j - d + 1)).2.1 % e = 0 then (al d e z k (j - d + 1)).2.1 else 0
  | 0, j => by rw [if_neg (fun h => absurd h.2.1 (Nat.not_lt_zero _))]; rfl
  | t + 1, j => by
    have ih := al_U t j
    show (if (t % k = 0 ∧ 0 < aB t (al d e z k t)) ∧ aG k t (al d e z k t) % e = 0 then (fun j => if j = t + d then aG k t (al d e z k t) else (al d e z k t).2.2.2.2.2 j) else (al d e z k t).2.2.2.2.2) j = _
    have eG : (al d e z k (t + 1)).2.1 = aG k t (al d e z k t) := rfl
    by_cases hj : j = t + d
    · subst hj
      rw [show t + d - d = t by omega] at ih ⊢
      rw [if_neg (fun h => absurd h.2.1 (Nat.lt_irrefl t))] at ih
      by_cases hk : (t % k = 0 ∧ 0 < aB t (al d e z k t)) ∧ aG k t (al d e z k t) % e = 0
      · have hc2 : d ≤ t + d ∧ t < t + 1 ∧ (al d e z k (t + 1)).2.1 = (al d e z k t).2.1 + 1 ∧ (al d e z k (t + 1)).2.1 % e = 0 := ⟨by omega, by omega, by rw [al_2, if_pos hk.1], by rw [eG]; exact hk.2⟩
        rw [if_pos hk]
        show (if t + d = t + d then aG k t (al d e z k t) else (al d e z k t).2.2.2.2.2 (t + d)) = _
        rw [if_pos rfl, if_pos hc2, eG]
      · rw [if_neg hk, if_neg (fun h => hk ⟨by
          by_cases q : t % k = 0 ∧ 0 < aB t (al d e z k t)
          · exact q
          · have h2 := h.2.2.1
            rw [al_2, if_neg q] at h2
            omega, by rw [← eG]; exact h.2.2.2⟩), ih]
    · have e1 : (if (t % k = 0 ∧ 0 < aB t (al d e z k t)) ∧ aG k t (al d e z k t) % e = 0 then (fun j => if j = t + d then aG k t (al d e z k t) else (al d e z k t).2.2.2.2.2 j) else (al d e z k t).2.2.2.2.2) j = (al d e z k t).2.2.2.2.2 j := by
        split
        · show (if j = t + d then _ else _) = _
          rw [if_neg hj]
        · rfl
      rw [e1, ih]
      by_cases hc : d ≤ j ∧ j - d < t ∧ (al d e z k (j - d + 1)).2.1 = (al d e z k (j - d)).2.1 + 1 ∧ (al d e z k (j - d + 1)).2.1 % e = 0
      · rw [if_pos hc, if_pos ⟨hc.1, by omega, hc.2.2⟩]
      · rw [if_neg hc, if_neg (fun q => hc ⟨q.1, by omega, q.2.2⟩)]
theorem al_P1 (t : Nat) : (al d e z k (t + 1)).2.1 + (al d e z k (t + 1)).2.2.2.1 = (al d e z k t).2.1 + aB t (al d e z k t) := by
  rw [al_2, al_4]
  by_cases h : t % k = 0 ∧ 0 < aB t (al d e z k t)
  · rw [if_pos h, if_pos h]; have := h.2; omega
  · rw [if_neg h, if_neg h]
theorem al_P (hd : 0 < d) : ∀ t, (al d e z k t).2.1 + (al d e z k t).2.2.2.1 = (al d e z k (t - d)).1
  | 0 => by rw [Nat.zero_sub]; rfl
  | t + 1 => by
    have ih := al_P hd t
    rw [al_P1]
    unfold aB
    have hc := al_C (d := d) (e := e) (z := z) (k := k) t t
    by_cases hq : (al d e z k t).2.2.2.2.1 t = true
    · have q := hc.mp hq
      rw [if_pos hq, show t + 1 - d = t - d + 1 by omega, q.2.2]
      omega
    · rw [if_neg hq]
      by_cases h1 : d ≤ t
      · have hs := al_S (d := d) (e := e) (z := z) (k := k) (t - d)
        have hn : ¬ (al d e z k (t - d + 1)).1 = (al d e z k (t - d)).1 + 1 := fun q => hq (hc.mpr ⟨h1, by omega, q⟩)
        rw [show t + 1 - d = t - d + 1 by omega]
        omega
      · rw [show t + 1 - d = t - d by omega]
        omega
theorem al_B (hd : 0 < d) (t : Nat) : (al d e z k t).2.1 + aB t (al d e z k t) = (al d e z k (t + 1 - d)).1 := by
  rw [← al_P1, al_P hd]
theorem fl_e {G e : Nat} (h0 : 0 < e) (h5 : e < 5) (h : (G + 1) % e = 0) : (G + 1) / e * e = G + 1 := by
  rcases (show e = 1 ∨ e = 2 ∨ e = 3 ∨ e = 4 by omega) with rfl | rfl | rfl | rfl <;> omega
theorem fl_n {G e : Nat} (h0 : 0 < e) (h5 : e < 5) (h : ¬ (G + 1) % e = 0) : (G + 1) / e * e = G / e * e := by
  rcases (show e = 1 ∨ e = 2 ∨ e = 3 ∨ e = 4 by omega) with rfl | rfl | rfl | rfl <;> omega
theorem fl_m {a b e : Nat} (h0 : 0 < e) (h5 : e < 5) (h : a ≤ b) : a / e * e ≤ b / e * e := Nat.mul_le_mul_right _ (Nat.div_le_div_right h)
theorem al_K (hd : 0 < d) (h0 : 0 < e) (h5 : e < 5) : ∀ t, (al d e z k t).2.2.1 = (al d e z k (t - d)).2.1 / e * e
  | 0 => by rw [Nat.zero_sub]; show 0 = 0 / e * e; rw [Nat.zero_div, Nat.zero_mul]
  | t + 1 => by
    have ih := al_K hd h0 h5 t
    rw [al_3]
    unfold aK
    have hU := al_U (d := d) (e := e) (z := z) (k := k) t t
    by_cases h1 : d ≤ t
    · rw [show t + 1 - d = t - d + 1 by omega]
      have hg := al_Gs (d := d) (e := e) (z := z) (k := k) (t - d)
      by_cases h2 : (al d e z k (t - d + 1)).2.1 = (al d e z k (t - d)).2.1 + 1
      · by_cases h3 : (al d e z k (t - d + 1)).2.1 % e = 0
        · have hc2 : d ≤ t ∧ t - d < t ∧ (al d e z k (t - d + 1)).2.1 = (al d e z k (t - d)).2.1 + 1 ∧ (al d e z k (t - d + 1)).2.1 % e = 0 := ⟨h1, by omega, h2, h3⟩
          rw [if_pos hc2] at hU
          rw [hU, if_neg (show ¬ (al d e z k (t - d + 1)).2.1 = 0 by omega), h2]
          exact (fl_e h0 h5 (by rw [← h2]; exact h3)).symm
        · have hc2 : ¬ (d ≤ t ∧ t - d < t ∧ (al d e z k (t - d + 1)).2.1 = (al d e z k (t - d)).2.1 + 1 ∧ (al d e z k (t - d + 1)).2.1 % e = 0) := fun q => h3 q.2.2.2
          rw [if_neg hc2] at hU
          rw [hU, if_pos rfl, ih, h2]
          exact (fl_n h0 h5 (by rw [← h2]; exact h3)).symm
      · have hc2 : ¬ (d ≤ t ∧ t - d < t ∧ (al d e z k (t - d + 1)).2.1 = (al d e z k (t - d)).2.1 + 1 ∧ (al d e z k (t - d + 1)).2.1 % e = 0) := fun q => h2 q.2.2.1
        rw [if_neg hc2] at hU
        rw [hU, if_pos rfl, ih, show (al d e z k (t - d + 1)).2.1 = (al d e z k (t - d)).2.1 by omega]
    · have hc2 : ¬ (d ≤ t ∧ t - d < t ∧ (al d e z k (t - d + 1)).2.1 = (al d e z k (t - d)).2.1 + 1 ∧ (al d e z k (t - d + 1)).2.1 % e = 0) := fun q => h1 q.1
      rw [if_neg hc2] at hU
      rw [hU, if_pos rfl, ih, show t + 1 - d = t - d by omega]
theorem al_K1 (hd : 0 < d) (h0 : 0 < e) (h5 : e < 5) (t : Nat) : aK t (al d e z k t) = (al d e z k (t + 1 - d)).2.1 / e * e := by
  rw [← al_3, al_K hd h0 h5]
theorem al_mono {y : Nat} (hd : 0 < d) (h0 : 0 < e) (h5 : e < 5) (hy : z ≤ y) : ∀ t, ∀ i, i ≤ t → (al d e z k i).1 ≤ (al d e y k i).1 ∧ (al d e z k i).2.1 ≤ (al d e y k i).2.1
  | 0, i, hi => by
    rw [show i = 0 by omega]
    exact ⟨Nat.le_refl _, Nat.le_refl _⟩
  | t + 1, i, hi => by
    have ih := al_mono (y := y) hd h0 h5 hy t
    by_cases hl : i ≤ t
    · exact ih i hl
    · rw [show i = t + 1 by omega]
      have ht := ih t (Nat.le_refl t)
      have hb := ih (t + 1 - d) (by omega)
      have b1 := al_B (e := e) (z := z) (k := k) hd t
      have b2 := al_B (e := e) (z := y) (k := k) hd t
      have k1 := al_K1 (z := z) (k := k) hd h0 h5 t
      have k2 := al_K1 (z := y) (k := k) hd h0 h5 t
      have km := fl_m h0 h5 hb.2
      have i1 := aI_al d e z k hd t
      have i2 := aI_al d e y k hd t
      have q1 := aK_in i1
      have q2 := aK_in i2
      have r1 := aB_in hd i1
      have r2 := aB_in hd i2
      refine ⟨?_, ?_⟩
      · rw [al_1, al_1]
        by_cases hs : (al d e z k t).1 - aK t (al d e z k t) < z
        · rw [if_pos hs]
          by_cases hs2 : (al d e y k t).1 - aK t (al d e y k t) < y
          · rw [if_pos hs2]; omega
          · rw [if_neg hs2]; omega
        · rw [if_neg hs]
          split <;> omega
      · rw [al_2, al_2]
        by_cases hs : t % k = 0 ∧ 0 < aB t (al d e z k t)
        · rw [if_pos hs]
          have hp := hs.2
          by_cases hs2 : t % k = 0 ∧ 0 < aB t (al d e y k t)
          · rw [if_pos hs2]; omega
          · rw [if_neg hs2]
            have hn : ¬ 0 < aB t (al d e y k t) := fun q => hs2 ⟨hs.1, q⟩
            omega
        · rw [if_neg hs]
          split <;> omega
end Mono
/-- the least zone, looked for in two ways -/
theorem full_eq {d e k n v w : Nat} (hd : 0 < d) (h0 : 0 < e) (h5 : e < 5) (v1 : 1 ≤ v) (v30 : v ≤ 30) (vE : (al d e v k n).1 = (al d e 30 k n).1) (vm : ∀ q, 1 ≤ q → q < v → ¬ (al d e q k n).1 = (al d e 30 k n).1)
    (w1 : 1 ≤ w) (wE : ¬ (al d e w k n).1 < (al d e 30 k n).1) (wm : ∀ q, 1 ≤ q → q < w → (al d e q k n).1 < (al d e 30 k n).1) : v = w := by
  rcases Nat.lt_trichotomy v w with h | h | h
  · have q := wm v v1 h
    omega
  · exact h
  · have q := (al_mono (z := w) (y := 30) (k := k) hd h0 h5 (by omega) n n (Nat.le_refl n)).1
    exact absurd (by omega) (vm w w1 h)
/-! the reference's slots -/
def rC (t : Nat) (C : Nat → Bool) (f : Nat → Int32) : Prop := ∀ i, i < 8 → f ((t + i) % 8) = if C (t + i) = true then 1 else 0
def rU (t : Nat) (U : Nat → Nat) (f : Nat → Int32) : Prop := ∀ i, i < 8 → f ((t + i) % 8) = if U (t + i) = 0 then -1 else nI (U (t + i))
theorem rC_clear {t d : Nat} {C : Nat → Bool} {f : Nat → Int32} (hd : d < 5) (h : rC t C f) (hz : ∀ j, t + d ≤ j → C j = false) : rC (t + 1) C (upd f (t % 8) 0) := by
  intro i hi
  by_cases h4 : i = 7
  · subst h4
    rw [show (t + 1 + 7) % 8 = t % 8 by omega, pk_us, hz (t + 1 + 7) (by omega)]
    rfl
  · rw [pk_un (show (t + 1 + i) % 8 ≠ t % 8 by omega), show t + 1 + i = t + (i + 1) by omega]
    exact h (i + 1) (by omega)
theorem rU_clear {t d : Nat} {U : Nat → Nat} {f : Nat → Int32} (hd : d < 5) (h : rU t U f) (hz : ∀ j, t + d ≤ j → U j = 0) : rU (t + 1) U (upd f (t % 8) (-1)) := by
  intro i hi
  by_cases h4 : i = 7
  · subst h4
    rw [show (t + 1 + 7) % 8 = t % 8 by omega, pk_us, hz (t + 1 + 7) (by omega)]
    rfl
  · rw [pk_un (show (t + 1 + i) % 8 ≠ t % 8 by omega), show t + 1 + i = t + (i + 1) by omega]
    exact h (i + 1) (by omega)
theorem rC_y {d e z k t : Nat} {a : AS} {f : Nat → Int32} (h0 : 0 < d) (hd : d < 5) (hI : aI d z t a) (h : rC t a.2.2.2.2.1 f) (hs : a.1 - aK t a < z) : rC (t + 1) (al_s d e z k t a).2.2.2.2.1 (upd (upd f (t % 8) 0) ((t + d) % 8) 1) := by
  have h1 := rC_clear hd h (fun j hj => (hI.2.2.2.2.1 j hj).1)
  intro i hi
  show upd (upd f (t % 8) 0) ((t + d) % 8) 1 ((t + 1 + i) % 8) = if (if a.1 - aK t a < z then (fun j => if j = t + d then true else a.2.2.2.2.1 j) else a.2.2.2.2.1) (t + 1 + i) = true then 1 else 0
  rw [if_pos hs]
  show _ = if (if t + 1 + i = t + d then true else a.2.2.2.2.1 (t + 1 + i)) = true then 1 else 0
  by_cases h4 : i + 1 = d
  · rw [show (t + 1 + i) % 8 = (t + d) % 8 by omega, pk_us, if_pos (show t + 1 + i = t + d by omega)]
    rfl
  · rw [pk_un (show (t + 1 + i) % 8 ≠ (t + d) % 8 by omega), if_neg (show ¬ t + 1 + i = t + d by omega)]
    exact h1 i hi
theorem rC_n {d e z k t : Nat} {a : AS} {f : Nat → Int32} (hd : d < 5) (hI : aI d z t a) (h : rC t a.2.2.2.2.1 f) (hs : ¬ a.1 - aK t a < z) : rC (t + 1) (al_s d e z k t a).2.2.2.2.1 (upd f (t % 8) 0) := by
  have e1 : (al_s d e z k t a).2.2.2.2.1 = a.2.2.2.2.1 := if_neg hs
  rw [e1]
  exact rC_clear hd h (fun j hj => (hI.2.2.2.2.1 j hj).1)
theorem rU_n {d e z k t : Nat} {a : AS} {f : Nat → Int32} (hd : d < 5) (hI : aI d z t a) (h : rU t a.2.2.2.2.2 f) (hk : ¬ (t % k = 0 ∧ 0 < aB t a)) : rU (t + 1) (al_s d e z k t a).2.2.2.2.2 (upd f (t % 8) (-1)) := by
  have e1 : (al_s d e z k t a).2.2.2.2.2 = a.2.2.2.2.2 := if_neg (fun q => hk q.1)
  rw [e1]
  exact rU_clear hd h (fun j hj => (hI.2.2.2.2.1 j hj).2)
theorem rU_y {d e z k t : Nat} {a : AS} {f : Nat → Int32} (h0 : 0 < d) (hd : d < 5) (hI : aI d z t a) (h : rU t a.2.2.2.2.2 f) (hk : t % k = 0 ∧ 0 < aB t a) (he : (a.2.1 + 1) % e = 0) : rU (t + 1) (al_s d e z k t a).2.2.2.2.2 (upd (upd f (t % 8) (-1)) ((t + d) % 8) (nI (a.2.1 + 1))) := by
  have h1 := rU_clear hd h (fun j hj => (hI.2.2.2.2.1 j hj).2)
  have eG : aG k t a = a.2.1 + 1 := if_pos hk
  have e1 : (al_s d e z k t a).2.2.2.2.2 = (fun j => if j = t + d then aG k t a else a.2.2.2.2.2 j) := if_pos ⟨hk, by rw [eG]; exact he⟩
  rw [e1, eG]
  intro i hi
  show _ = if (if t + 1 + i = t + d then a.2.1 + 1 else a.2.2.2.2.2 (t + 1 + i)) = 0 then -1 else nI (if t + 1 + i = t + d then a.2.1 + 1 else a.2.2.2.2.2 (t + 1 + i))
  by_cases h4 : i + 1 = d
  · rw [show (t + 1 + i) % 8 = (t + d) % 8 by omega, pk_us, if_pos (show t + 1 + i = t + d by omega), if_neg (by omega)]
  · rw [pk_un (show (t + 1 + i) % 8 ≠ (t + d) % 8 by omega), if_neg (show ¬ t + 1 + i = t + d by omega)]
    exact h1 i hi
theorem rU_x {d e z k t : Nat} {a : AS} {f : Nat → Int32} (h0 : 0 < d) (hd : d < 5) (hI : aI d z t a) (h : rU t a.2.2.2.2.2 f) (hk : t % k = 0 ∧ 0 < aB t a) (he : ¬ (a.2.1 + 1) % e = 0) : rU (t + 1) (al_s d e z k t a).2.2.2.2.2 (upd (upd f (t % 8) (-1)) ((t + d) % 8) (-1)) := by
  have h1 := rU_clear hd h (fun j hj => (hI.2.2.2.2.1 j hj).2)
  have eG : aG k t a = a.2.1 + 1 := if_pos hk
  have e1 : (al_s d e z k t a).2.2.2.2.2 = a.2.2.2.2.2 := if_neg (fun q => he (by rw [← eG]; exact q.2))
  rw [e1]
  intro i hi
  by_cases h4 : i + 1 = d
  · rw [show (t + 1 + i) % 8 = (t + d) % 8 by omega, pk_us, show t + 1 + i = t + d by omega, (hI.2.2.2.2.1 (t + d) (Nat.le_refl _)).2]
    rfl
  · rw [pk_un (show (t + 1 + i) % 8 ≠ (t + d) % 8 by omega)]
    exact h1 i hi
theorem rC_b {t : Nat} {a : AS} {f : Nat → Int32} (h : rC t a.2.2.2.2.1 f) : nI a.2.2.2.1 + f (t % 8) = nI (aB t a) := by
  have c0 : f (t % 8) = if a.2.2.2.2.1 t = true then 1 else 0 := h 0 (by omega)
  unfold aB
  rw [c0]
  split
  · exact nI_1 _
  · exact nI_add _ 0
theorem rU_k0 {t : Nat} {a : AS} {f : Nat → Int32} (hs : a.2.2.2.2.2 t < 2 ^ 31) (h : rU t a.2.2.2.2.2 f) (hc : f (t % 8) = -1) : nI a.2.2.1 = nI (aK t a) := by
  have c0 : f (t % 8) = if a.2.2.2.2.2 t = 0 then -1 else nI (a.2.2.2.2.2 t) := h 0 (by omega)
  unfold aK
  by_cases hu : a.2.2.2.2.2 t = 0
  · rw [if_pos hu]
  · rw [if_neg hu] at c0
    exact absurd (c0.symm.trans hc) (m1_ne hs)
theorem rU_k1 {t : Nat} {a : AS} {f : Nat → Int32} (h : rU t a.2.2.2.2.2 f) (hc : ¬ f (t % 8) = -1) : f (t % 8) = nI (aK t a) := by
  have c0 : f (t % 8) = if a.2.2.2.2.2 t = 0 then -1 else nI (a.2.2.2.2.2 t) := h 0 (by omega)
  unfold aK
  by_cases hu : a.2.2.2.2.2 t = 0
  · rw [if_pos hu] at c0
    exact absurd c0 hc
  · rw [if_neg hu] at c0 ⊢
    exact c0
theorem rC_0 {f : Nat → Int32} (h : ∀ j, j < 8 → f j = 0) : rC 0 (fun _ => false) f := fun i hi => h _ (by omega)
theorem rU_0 {f : Nat → Int32} (h : ∀ j, j < 8 → f j = -1) : rU 0 (fun _ => 0) f := fun i hi => h _ (by omega)
theorem pk_m1x {n : Nat} (h : ¬ nI n ≤ 0) : nI n + Int32.ofInt (-1) = nI (n - 1) := sb_m1 (Nat.pos_of_ne_zero (fun q => h (by rw [q]; decide)))
/-- an int within bounds, as a number -/
theorem rg {x lo hi : Int32} {L U : Nat} (hL : lo = nI L) (hU : hi = nI U) (bL : L < 2 ^ 31) (bU : U < 2 ^ 31) (h : lo ≤ x ∧ x ≤ hi) : ∃ n : Nat, L ≤ n ∧ n ≤ U ∧ x = nI n := by
  subst hL
  subst hU
  have h0 : ¬ x < 0 := by
    have q := Int32.le_iff_toInt_le.mp h.1
    rw [nI_toInt bL] at q
    rw [Int32.lt_iff_toInt_lt]
    have e0 : (0 : Int32).toInt = 0 := by decide
    omega
  obtain ⟨n, hn, rfl⟩ := nI_of h0
  exact ⟨n, (nI_leI bL hn).mp h.1, (nI_leI hn bU).mp h.2, rfl⟩
def okA (p0 p1 p2 p3 : Int32) : Prop := (1 ≤ p0 ∧ p0 ≤ 4) ∧ (1 ≤ p1 ∧ p1 ≤ 4) ∧ (1 ≤ p2 ∧ p2 ≤ 9) ∧ (1 ≤ p3 ∧ p3 ≤ 200)
theorem out_in {x lo hi : Int32} (h : ¬ (x < lo ∨ hi < x)) : lo ≤ x ∧ x ≤ hi := ⟨Int32.not_lt.mp (fun q => h (Or.inl q)), Int32.not_lt.mp (fun q => h (Or.inr q))⟩
theorem in_out {x lo hi : Int32} (h : lo ≤ x ∧ x ≤ hi) : ¬ (x < lo ∨ hi < x) := fun q => q.elim (fun q => absurd h.1 (Int32.not_le.mpr q)) (fun q => absurd h.2 (Int32.not_le.mpr q))
theorem okA_of {p0 p1 p2 p3 : Int32} (h : ¬ ((p0 < 1 ∨ 4 < p0) ∨ (p1 < 1 ∨ 4 < p1) ∨ (p2 < 1 ∨ 9 < p2) ∨ (p3 < 1 ∨ 200 < p3))) : okA p0 p1 p2 p3 := ⟨out_in (fun q => h (Or.inl q)), out_in (fun q => h (Or.inr (Or.inl q))), out_in (fun q => h (Or.inr (Or.inr (Or.inl q)))), out_in (fun q => h (Or.inr (Or.inr (Or.inr q))))⟩
theorem okA_no {p0 p1 p2 p3 : Int32} (h : (p0 < 1 ∨ 4 < p0) ∨ (p1 < 1 ∨ 4 < p1) ∨ (p2 < 1 ∨ 9 < p2) ∨ (p3 < 1 ∨ 200 < p3)) : ¬ okA p0 p1 p2 p3 := fun q => h.elim (in_out q.1) (fun h => h.elim (in_out q.2.1) (fun h => h.elim (in_out q.2.2.1) (in_out q.2.2.2)))
/-- what alone answers -/
def alP (p0 p1 p2 p3 p4 r : Int32) : Prop := (okA p0 p1 p3 p4 ∧ (1 ≤ p2 ∧ p2 ≤ 30) → r = nI (al p0.toNatClampNeg p1.toNatClampNeg p2.toNatClampNeg p3.toNatClampNeg p4.toNatClampNeg).1) ∧ (¬ (okA p0 p1 p3 p4 ∧ (1 ≤ p2 ∧ p2 ≤ 30)) → r = -1)
theorem alP_eq {p0 p1 p2 p3 p4 r q : Int32} (h : alP p0 p1 p2 p3 p4 r) (h2 : alP p0 p1 p2 p3 p4 q) : r = q := by
  rcases Classical.em (okA p0 p1 p3 p4 ∧ (1 ≤ p2 ∧ p2 ≤ 30)) with c | c
  · rw [h.1 c, h2.1 c]
  · rw [h.2 c, h2.2 c]
theorem alP_y {d e z k n : Nat} (hd : d < 2 ^ 31) (he : e < 2 ^ 31) (hz : z < 2 ^ 31) (hk : k < 2 ^ 31) (hn : n < 2 ^ 31) (ok : okA (nI d) (nI e) (nI k) (nI n) ∧ (1 ≤ nI z ∧ nI z ≤ 30)) : alP (nI d) (nI e) (nI z) (nI k) (nI n) (nI (al d e z k n).1) := ⟨fun _ => by rw [nI_clamp hd, nI_clamp he, nI_clamp hz, nI_clamp hk, nI_clamp hn], fun c => absurd ok c⟩
/-- what full answers: of the class, of the reference -/
def fuC (p0 p1 p2 p3 r : Int32) : Prop := (okA p0 p1 p2 p3 → ∃ v : Nat, r = nI v ∧ 1 ≤ v ∧ v ≤ 30 ∧ (al p0.toNatClampNeg p1.toNatClampNeg v p2.toNatClampNeg p3.toNatClampNeg).1 = (al p0.toNatClampNeg p1.toNatClampNeg 30 p2.toNatClampNeg p3.toNatClampNeg).1 ∧ ∀ q, 1 ≤ q → q < v → ¬ (al p0.toNatClampNeg p1.toNatClampNeg q p2.toNatClampNeg p3.toNatClampNeg).1 = (al p0.toNatClampNeg p1.toNatClampNeg 30 p2.toNatClampNeg p3.toNatClampNeg).1) ∧ (¬ okA p0 p1 p2 p3 → r = -1)
def fuR (p0 p1 p2 p3 r : Int32) : Prop := (okA p0 p1 p2 p3 → ∃ v : Nat, r = nI v ∧ 1 ≤ v ∧ ¬ (al p0.toNatClampNeg p1.toNatClampNeg v p2.toNatClampNeg p3.toNatClampNeg).1 < (al p0.toNatClampNeg p1.toNatClampNeg 30 p2.toNatClampNeg p3.toNatClampNeg).1 ∧ ∀ q, 1 ≤ q → q < v → (al p0.toNatClampNeg p1.toNatClampNeg q p2.toNatClampNeg p3.toNatClampNeg).1 < (al p0.toNatClampNeg p1.toNatClampNeg 30 p2.toNatClampNeg p3.toNatClampNeg).1) ∧ (¬ okA p0 p1 p2 p3 → r = -1)
theorem fu_eq {p0 p1 p2 p3 r q : Int32} (h : fuC p0 p1 p2 p3 r) (h2 : fuR p0 p1 p2 p3 q) : r = q := by
  rcases Classical.em (okA p0 p1 p2 p3) with c | c
  · obtain ⟨v, rfl, v1, v2, v3, v4⟩ := h.1 c
    obtain ⟨w, rfl, w1, w3, w4⟩ := h2.1 c
    obtain ⟨d, d1, d2, rfl⟩ := rg (L := 1) (U := 4) rfl rfl (by decide) (by decide) c.1
    obtain ⟨e, e1, e2, rfl⟩ := rg (L := 1) (U := 4) rfl rfl (by decide) (by decide) c.2.1
    rw [nI_clamp (show d < 2 ^ 31 by omega), nI_clamp (show e < 2 ^ 31 by omega)] at v3 v4 w3 w4
    exact congrArg nI (full_eq (by omega) (by omega) (by omega) v1 v2 v3 v4 w1 w3 w4)
  · rw [h.2 c, h2.2 c]
end
